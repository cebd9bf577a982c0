set_option maxRecDepth 20000 in
theorem ggX9_safe_X9_isTime : GoodIn wsX9_safe wsX9_isTime := goodIn_r _ [10, 11, 12, 13, 9, 14, 15, 16, 17, 18, 19, 20, 21, 22, 23, 118, 119, 120, 121, 122, 123, 124, 125, 126, 127, 128, 129, 130, 131, 132, 133, 134, 135, 136, 137, 138, 139, 140, 141, 142, 143, 144, 145, 146, 147, 148, 149, 150, 151, 152, 153, 154, 155, 156, 157, 158, 159, 160, 161, 162, 163, 164, 165, 166, 167, 168, 169, 170, 171, 172, 173, 174, 175, 176, 177, 178, 179, 180, 181, 182] rfl (by decide +kernel)
set_option maxRecDepth 20000 in
theorem gX9_safe_X9_isTime : GoodIn wsX9_safe (wsV RX9 347 RX9 yX9_isTime wsX9_isTime) := goodIn_app (goodIn_of _ (by decide +kernel)) ggX9_safe_X9_isTime
set_option maxRecDepth 20000 in
theorem ggX9_safe_X9_within : GoodIn wsX9_safe wsX9_within := goodIn_r _ [19] rfl (by decide +kernel)
set_option maxRecDepth 20000 in
theorem gX9_safe_X9_within : GoodIn wsX9_safe (wsV RX9 209 RX9 yX9_within wsX9_within) := goodIn_app (goodIn_of _ (by decide +kernel)) ggX9_safe_X9_within
set_option maxRecDepth 20000 in
theorem ggX9_safe_X9_asIs : GoodIn wsX9_safe wsX9_asIs := goodIn_r _ [27, 28, 29, 30, 31, 3, 4, 32, 33, 118, 119, 120, 121, 122, 123, 124, 125, 126, 127, 128, 129, 130, 131, 132, 133, 134, 135, 136, 137, 138, 139, 140, 141, 142, 143, 144, 145, 146, 147, 148, 149, 150, 151, 152, 153, 154, 155, 156, 157, 158, 159, 160, 161, 162, 163, 164, 165, 166, 167, 168, 169, 170, 171, 172, 173, 174, 175, 176, 177, 178, 179, 180, 181, 182] rfl (by decide +kernel)
set_option maxRecDepth 20000 in
theorem gX9_safe_X9_asIs : GoodIn wsX9_safe (wsV RX9 316 RX9 yX9_asIs wsX9_asIs) := goodIn_app (goodIn_of _ (by decide +kernel)) ggX9_safe_X9_asIs
set_option maxRecDepth 20000 in
theorem ggX9_safe_X9_layAway : GoodIn wsX9_safe wsX9_layAway := goodIn_r _ [37, 38, 39, 40, 41, 42, 11, 12, 13, 9, 14, 15, 16, 17, 18, 19, 118, 119, 120, 121, 122, 123, 124, 125, 126, 127, 128, 129, 130, 131, 132, 133, 134, 135, 136, 137, 138, 139, 140, 141, 142, 143, 144, 145, 146, 147, 148, 149, 150, 151, 152, 153, 154, 155, 156, 157, 158, 159, 160, 161, 162, 163, 164, 165, 166, 167, 168, 169, 170, 171, 172, 173, 174, 175, 176, 177, 178, 179, 180, 181, 182] rfl (by decide +kernel)
set_option maxRecDepth 20000 in
theorem gX9_safe_X9_layAway : GoodIn wsX9_safe (wsV RX9 319 RX9 yX9_layAway wsX9_layAway) := goodIn_app (goodIn_of _ (by decide +kernel)) ggX9_safe_X9_layAway
set_option maxRecDepth 20000 in
theorem ggX9_safe_X9_isDanger : GoodIn wsX9_safe wsX9_isDanger := goodIn_r _ [46, 39, 47, 118, 119, 120, 121, 122, 123, 124, 125, 126, 127, 128, 129, 130, 131, 132, 133, 134, 135, 136, 137, 138, 139, 140, 141, 142, 143, 144, 145, 146, 147, 148, 149, 150, 151, 152, 153, 154, 155, 156, 157, 158, 159, 160, 161, 162, 163, 164, 165, 166, 167, 168, 169, 170, 171, 172, 173, 174, 175, 176, 177, 178, 179, 180, 181, 182] rfl (by decide +kernel)
set_option maxRecDepth 20000 in
theorem gX9_safe_X9_isDanger : GoodIn wsX9_safe (wsV RX9 367 RX9 yX9_isDanger wsX9_isDanger) := goodIn_app (goodIn_of _ (by decide +kernel)) ggX9_safe_X9_isDanger
set_option maxRecDepth 20000 in
theorem ggX9_safe_X9_layStops : GoodIn wsX9_safe wsX9_layStops := goodIn_r _ [51, 39, 52, 53, 54, 55, 56, 9, 57, 29, 58, 31, 59, 60, 61, 62, 63, 64, 65, 66, 67, 42, 68, 69, 40, 33, 47, 70, 71, 72, 73, 74, 75, 76, 77, 78, 79, 80, 81, 82, 83, 84, 85, 86, 87, 88, 89, 90, 91, 92, 93, 4, 118, 119, 120, 121, 122, 123, 124, 125, 126, 127, 128, 129, 130, 131, 132, 133, 134, 135, 136, 137, 138, 139, 140, 141, 142, 143, 144, 145, 146, 147, 148, 149, 150, 151, 152, 153, 154, 155, 156, 157, 158, 159, 160, 161, 162, 163, 164, 165, 166, 167, 168, 169, 170, 171, 172, 173, 174, 175, 176, 177, 178, 179, 180, 181, 182] rfl (by decide +kernel)
set_option maxRecDepth 20000 in
theorem gX9_safe_X9_layStops : GoodIn wsX9_safe (wsV RX9 335 RX9 yX9_layStops wsX9_layStops) := goodIn_app (goodIn_of _ (by decide +kernel)) ggX9_safe_X9_layStops
set_option maxRecDepth 20000 in
theorem ggX9_safe_X9_arrives : GoodIn wsX9_safe wsX9_arrives := goodIn_r _ [97, 98, 1, 99, 40, 100, 41, 101, 102, 103, 9, 104, 39, 47, 105, 106, 107, 108, 42, 53, 109, 110, 111, 112, 52, 60, 61, 62, 63, 113, 114, 115, 116, 117, 38, 58, 64, 65, 66, 67, 68, 69, 31, 59, 33, 70, 71, 72, 73, 74, 75, 76, 77, 78, 79, 80, 81, 82, 83, 84, 85, 86, 87, 88, 118, 119, 120, 121, 122, 123, 124, 125, 126, 127, 128, 129, 130, 131, 132, 133, 134, 135, 136, 137, 138, 139, 140, 141, 142, 143, 144, 145, 146, 147, 148, 149, 150, 151, 152, 153, 154, 155, 156, 157, 158, 159, 160, 161, 162, 163, 164, 165, 166, 167, 168, 169, 170, 171, 172, 173, 174, 175, 176, 177, 178, 179, 180, 181, 182] rfl (by decide +kernel)
set_option maxRecDepth 20000 in
theorem gX9_safe_X9_arrives : GoodIn wsX9_safe (wsV RX9 350 RX9 yX9_arrives wsX9_arrives) := goodIn_app (goodIn_of _ (by decide +kernel)) ggX9_safe_X9_arrives
theorem dX9_safe_0 : decode cX9_safe 0 = .ok (.aload_n 0, 1) := by decide +kernel
theorem dX9_safe_1 : decode cX9_safe 1 = .ok (.iload_n 1, 1) := by decide +kernel
theorem dX9_safe_2 : decode cX9_safe 2 = .ok (.invokevirtual 347, 3) := by decide +kernel
theorem dX9_safe_5 : decode cX9_safe 5 = .ok (.ifCond .eq 14, 3) := by decide +kernel
theorem dX9_safe_8 : decode cX9_safe 8 = .ok (.aload_n 0, 1) := by decide +kernel
theorem dX9_safe_9 : decode cX9_safe 9 = .ok (.iload_n 2, 1) := by decide +kernel
theorem dX9_safe_10 : decode cX9_safe 10 = .ok (.iconst 1, 1) := by decide +kernel
theorem dX9_safe_11 : decode cX9_safe 11 = .ok (.bipush 40, 2) := by decide +kernel
theorem dX9_safe_13 : decode cX9_safe 13 = .ok (.invokevirtual 209, 3) := by decide +kernel
theorem dX9_safe_16 : decode cX9_safe 16 = .ok (.ifCond .ne 5, 3) := by decide +kernel
theorem dX9_safe_19 : decode cX9_safe 19 = .ok (.iconst (-1), 1) := by decide +kernel
theorem dX9_safe_20 : decode cX9_safe 20 = .ok (.ireturn, 1) := by decide +kernel
theorem dX9_safe_21 : decode cX9_safe 21 = .ok (.aload_n 0, 1) := by decide +kernel
theorem dX9_safe_22 : decode cX9_safe 22 = .ok (.invokevirtual 316, 3) := by decide +kernel
theorem dX9_safe_25 : decode cX9_safe 25 = .ok (.aload_n 0, 1) := by decide +kernel
theorem dX9_safe_26 : decode cX9_safe 26 = .ok (.aload_n 0, 1) := by decide +kernel
theorem dX9_safe_27 : decode cX9_safe 27 = .ok (.getfield 41, 3) := by decide +kernel
theorem dX9_safe_30 : decode cX9_safe 30 = .ok (.invokevirtual 319, 3) := by decide +kernel
theorem dX9_safe_33 : decode cX9_safe 33 = .ok (.iconst 0, 1) := by decide +kernel
theorem dX9_safe_34 : decode cX9_safe 34 = .ok (.istore_n 3, 1) := by decide +kernel
theorem dX9_safe_35 : decode cX9_safe 35 = .ok (.iload_n 3, 1) := by decide +kernel
theorem dX9_safe_36 : decode cX9_safe 36 = .ok (.bipush 100, 2) := by decide +kernel
theorem dX9_safe_38 : decode cX9_safe 38 = .ok (.if_icmp .ge 20, 3) := by decide +kernel
theorem dX9_safe_41 : decode cX9_safe 41 = .ok (.aload_n 0, 1) := by decide +kernel
theorem dX9_safe_42 : decode cX9_safe 42 = .ok (.getfield 181, 3) := by decide +kernel
theorem dX9_safe_45 : decode cX9_safe 45 = .ok (.iload_n 3, 1) := by decide +kernel
theorem dX9_safe_46 : decode cX9_safe 46 = .ok (.aload_n 0, 1) := by decide +kernel
theorem dX9_safe_47 : decode cX9_safe 47 = .ok (.iload_n 3, 1) := by decide +kernel
theorem dX9_safe_48 : decode cX9_safe 48 = .ok (.invokevirtual 367, 3) := by decide +kernel
theorem dX9_safe_51 : decode cX9_safe 51 = .ok (.bastore, 1) := by decide +kernel
theorem dX9_safe_52 : decode cX9_safe 52 = .ok (.iinc 3 1, 3) := by decide +kernel
theorem dX9_safe_55 : decode cX9_safe 55 = .ok (.goto (-20), 3) := by decide +kernel
theorem dX9_safe_58 : decode cX9_safe 58 = .ok (.iconst 0, 1) := by decide +kernel
theorem dX9_safe_59 : decode cX9_safe 59 = .ok (.istore_n 3, 1) := by decide +kernel
theorem dX9_safe_60 : decode cX9_safe 60 = .ok (.iload_n 3, 1) := by decide +kernel
theorem dX9_safe_61 : decode cX9_safe 61 = .ok (.iload_n 2, 1) := by decide +kernel
theorem dX9_safe_62 : decode cX9_safe 62 = .ok (.if_icmp .ge 96, 3) := by decide +kernel
theorem dX9_safe_65 : decode cX9_safe 65 = .ok (.aload_n 0, 1) := by decide +kernel
theorem dX9_safe_66 : decode cX9_safe 66 = .ok (.aload_n 0, 1) := by decide +kernel
theorem dX9_safe_67 : decode cX9_safe 67 = .ok (.getfield 56, 3) := by decide +kernel
theorem dX9_safe_70 : decode cX9_safe 70 = .ok (.iload_n 3, 1) := by decide +kernel
theorem dX9_safe_71 : decode cX9_safe 71 = .ok (.iadd, 1) := by decide +kernel
theorem dX9_safe_72 : decode cX9_safe 72 = .ok (.putfield 163, 3) := by decide +kernel
theorem dX9_safe_75 : decode cX9_safe 75 = .ok (.aload_n 0, 1) := by decide +kernel
theorem dX9_safe_76 : decode cX9_safe 76 = .ok (.invokevirtual 335, 3) := by decide +kernel
theorem dX9_safe_79 : decode cX9_safe 79 = .ok (.iconst 0, 1) := by decide +kernel
theorem dX9_safe_80 : decode cX9_safe 80 = .ok (.istore 4, 2) := by decide +kernel
theorem dX9_safe_82 : decode cX9_safe 82 = .ok (.iload 4, 2) := by decide +kernel
theorem dX9_safe_84 : decode cX9_safe 84 = .ok (.bipush 100, 2) := by decide +kernel
theorem dX9_safe_86 : decode cX9_safe 86 = .ok (.if_icmp .ge 66, 3) := by decide +kernel
theorem dX9_safe_89 : decode cX9_safe 89 = .ok (.aload_n 0, 1) := by decide +kernel
theorem dX9_safe_90 : decode cX9_safe 90 = .ok (.getfield 181, 3) := by decide +kernel
theorem dX9_safe_93 : decode cX9_safe 93 = .ok (.iload 4, 2) := by decide +kernel
theorem dX9_safe_95 : decode cX9_safe 95 = .ok (.baload, 1) := by decide +kernel
theorem dX9_safe_96 : decode cX9_safe 96 = .ok (.ifCond .ne 6, 3) := by decide +kernel
theorem dX9_safe_99 : decode cX9_safe 99 = .ok (.goto 47, 3) := by decide +kernel
theorem dX9_safe_102 : decode cX9_safe 102 = .ok (.aload_n 0, 1) := by decide +kernel
theorem dX9_safe_103 : decode cX9_safe 103 = .ok (.iload_n 1, 1) := by decide +kernel
theorem dX9_safe_104 : decode cX9_safe 104 = .ok (.sipush 10000, 3) := by decide +kernel
theorem dX9_safe_107 : decode cX9_safe 107 = .ok (.idiv, 1) := by decide +kernel
theorem dX9_safe_108 : decode cX9_safe 108 = .ok (.iload_n 1, 1) := by decide +kernel
theorem dX9_safe_109 : decode cX9_safe 109 = .ok (.sipush 10000, 3) := by decide +kernel
theorem dX9_safe_112 : decode cX9_safe 112 = .ok (.irem, 1) := by decide +kernel
theorem dX9_safe_113 : decode cX9_safe 113 = .ok (.iload 4, 2) := by decide +kernel
theorem dX9_safe_115 : decode cX9_safe 115 = .ok (.invokevirtual 350, 3) := by decide +kernel
theorem dX9_safe_118 : decode cX9_safe 118 = .ok (.istore 5, 2) := by decide +kernel
theorem dX9_safe_120 : decode cX9_safe 120 = .ok (.aload_n 0, 1) := by decide +kernel
theorem dX9_safe_121 : decode cX9_safe 121 = .ok (.getfield 181, 3) := by decide +kernel
theorem dX9_safe_124 : decode cX9_safe 124 = .ok (.iload 4, 2) := by decide +kernel
theorem dX9_safe_126 : decode cX9_safe 126 = .ok (.iload 5, 2) := by decide +kernel
theorem dX9_safe_128 : decode cX9_safe 128 = .ok (.ifCond .lt 16, 3) := by decide +kernel
theorem dX9_safe_131 : decode cX9_safe 131 = .ok (.iload 5, 2) := by decide +kernel
theorem dX9_safe_133 : decode cX9_safe 133 = .ok (.aload_n 0, 1) := by decide +kernel
theorem dX9_safe_134 : decode cX9_safe 134 = .ok (.getfield 44, 3) := by decide +kernel
theorem dX9_safe_137 : decode cX9_safe 137 = .ok (.if_icmp .gt 7, 3) := by decide +kernel
theorem dX9_safe_140 : decode cX9_safe 140 = .ok (.iconst 1, 1) := by decide +kernel
theorem dX9_safe_141 : decode cX9_safe 141 = .ok (.goto 4, 3) := by decide +kernel
theorem dX9_safe_144 : decode cX9_safe 144 = .ok (.iconst 0, 1) := by decide +kernel
theorem dX9_safe_145 : decode cX9_safe 145 = .ok (.bastore, 1) := by decide +kernel
theorem dX9_safe_146 : decode cX9_safe 146 = .ok (.iinc 4 1, 3) := by decide +kernel
theorem dX9_safe_149 : decode cX9_safe 149 = .ok (.goto (-67), 3) := by decide +kernel
theorem dX9_safe_152 : decode cX9_safe 152 = .ok (.iinc 3 1, 3) := by decide +kernel
theorem dX9_safe_155 : decode cX9_safe 155 = .ok (.goto (-95), 3) := by decide +kernel
theorem dX9_safe_158 : decode cX9_safe 158 = .ok (.iconst 0, 1) := by decide +kernel
theorem dX9_safe_159 : decode cX9_safe 159 = .ok (.istore_n 3, 1) := by decide +kernel
theorem dX9_safe_160 : decode cX9_safe 160 = .ok (.iload_n 3, 1) := by decide +kernel
theorem dX9_safe_161 : decode cX9_safe 161 = .ok (.bipush 100, 2) := by decide +kernel
theorem dX9_safe_163 : decode cX9_safe 163 = .ok (.if_icmp .ge 20, 3) := by decide +kernel
theorem dX9_safe_166 : decode cX9_safe 166 = .ok (.aload_n 0, 1) := by decide +kernel
theorem dX9_safe_167 : decode cX9_safe 167 = .ok (.getfield 181, 3) := by decide +kernel
theorem dX9_safe_170 : decode cX9_safe 170 = .ok (.iload_n 3, 1) := by decide +kernel
theorem dX9_safe_171 : decode cX9_safe 171 = .ok (.baload, 1) := by decide +kernel
theorem dX9_safe_172 : decode cX9_safe 172 = .ok (.ifCond .eq 5, 3) := by decide +kernel
theorem dX9_safe_175 : decode cX9_safe 175 = .ok (.iload_n 3, 1) := by decide +kernel
theorem dX9_safe_176 : decode cX9_safe 176 = .ok (.ireturn, 1) := by decide +kernel
theorem dX9_safe_177 : decode cX9_safe 177 = .ok (.iinc 3 1, 3) := by decide +kernel
theorem dX9_safe_180 : decode cX9_safe 180 = .ok (.goto (-20), 3) := by decide +kernel
theorem dX9_safe_183 : decode cX9_safe 183 = .ok (.bipush (-2), 2) := by decide +kernel
theorem dX9_safe_185 : decode cX9_safe 185 = .ok (.ireturn, 1) := by decide +kernel
set_option maxRecDepth 20000 in
theorem ggX9_never_X9_layAway : GoodIn wsX9_never wsX9_layAway := goodIn_r _ [8, 3, 9, 10, 11, 12, 13, 14, 15, 7, 16, 2, 17, 18, 19, 20, 21, 22, 23, 24, 25, 26, 27, 28, 29, 30, 31, 32, 33, 34, 35, 36, 37, 38, 39, 40, 41, 42, 43, 44, 45, 46, 47, 48, 49, 50, 51, 52, 53, 54, 55, 56, 57, 58, 59, 60, 61, 62, 63, 64, 65, 66, 67, 68, 69, 70, 71, 72, 73, 74, 75, 76, 77, 78, 79, 80, 81, 82, 83, 84, 85] rfl (by decide +kernel)
set_option maxRecDepth 20000 in
theorem gX9_never_X9_layAway : GoodIn wsX9_never (wsV RX9 319 RX9 yX9_layAway wsX9_layAway) := goodIn_app (goodIn_of _ (by decide +kernel)) ggX9_never_X9_layAway
theorem dX9_never_0 : decode cX9_never 0 = .ok (.aload_n 0, 1) := by decide +kernel
theorem dX9_never_1 : decode cX9_never 1 = .ok (.aload_n 0, 1) := by decide +kernel
theorem dX9_never_2 : decode cX9_never 2 = .ok (.getfield 41, 3) := by decide +kernel
theorem dX9_never_5 : decode cX9_never 5 = .ok (.invokevirtual 319, 3) := by decide +kernel
theorem dX9_never_8 : decode cX9_never 8 = .ok (.iconst 0, 1) := by decide +kernel
theorem dX9_never_9 : decode cX9_never 9 = .ok (.istore_n 1, 1) := by decide +kernel
theorem dX9_never_10 : decode cX9_never 10 = .ok (.iconst 0, 1) := by decide +kernel
theorem dX9_never_11 : decode cX9_never 11 = .ok (.istore_n 2, 1) := by decide +kernel
theorem dX9_never_12 : decode cX9_never 12 = .ok (.iload_n 2, 1) := by decide +kernel
theorem dX9_never_13 : decode cX9_never 13 = .ok (.aload_n 0, 1) := by decide +kernel
theorem dX9_never_14 : decode cX9_never 14 = .ok (.getfield 7, 3) := by decide +kernel
theorem dX9_never_17 : decode cX9_never 17 = .ok (.if_icmp .ge 31, 3) := by decide +kernel
theorem dX9_never_20 : decode cX9_never 20 = .ok (.iload_n 1, 1) := by decide +kernel
theorem dX9_never_21 : decode cX9_never 21 = .ok (.aload_n 0, 1) := by decide +kernel
theorem dX9_never_22 : decode cX9_never 22 = .ok (.getfield 169, 3) := by decide +kernel
theorem dX9_never_25 : decode cX9_never 25 = .ok (.iload_n 2, 1) := by decide +kernel
theorem dX9_never_26 : decode cX9_never 26 = .ok (.iaload, 1) := by decide +kernel
theorem dX9_never_27 : decode cX9_never 27 = .ok (.sipush 9999, 3) := by decide +kernel
theorem dX9_never_30 : decode cX9_never 30 = .ok (.if_icmp .ne 9, 3) := by decide +kernel
theorem dX9_never_33 : decode cX9_never 33 = .ok (.iconst 1, 1) := by decide +kernel
theorem dX9_never_34 : decode cX9_never 34 = .ok (.iload_n 2, 1) := by decide +kernel
theorem dX9_never_35 : decode cX9_never 35 = .ok (.ishl, 1) := by decide +kernel
theorem dX9_never_36 : decode cX9_never 36 = .ok (.goto 4, 3) := by decide +kernel
theorem dX9_never_39 : decode cX9_never 39 = .ok (.iconst 0, 1) := by decide +kernel
theorem dX9_never_40 : decode cX9_never 40 = .ok (.ior, 1) := by decide +kernel
theorem dX9_never_41 : decode cX9_never 41 = .ok (.istore_n 1, 1) := by decide +kernel
theorem dX9_never_42 : decode cX9_never 42 = .ok (.iinc 2 1, 3) := by decide +kernel
theorem dX9_never_45 : decode cX9_never 45 = .ok (.goto (-33), 3) := by decide +kernel
theorem dX9_never_48 : decode cX9_never 48 = .ok (.iload_n 1, 1) := by decide +kernel
theorem dX9_never_49 : decode cX9_never 49 = .ok (.ireturn, 1) := by decide +kernel
set_option maxRecDepth 20000 in
theorem ggX9_body_X9_within : GoodIn wsX9_body wsX9_within := goodIn_r _ [7] rfl (by decide +kernel)
set_option maxRecDepth 20000 in
theorem gX9_body_X9_within : GoodIn wsX9_body (wsV RX9 209 RX9 yX9_within wsX9_within) := goodIn_app (goodIn_of _ (by decide +kernel)) ggX9_body_X9_within
theorem dX9_body_0 : decode cX9_body 0 = .ok (.aload_n 0, 1) := by decide +kernel
theorem dX9_body_1 : decode cX9_body 1 = .ok (.iload_n 1, 1) := by decide +kernel
theorem dX9_body_2 : decode cX9_body 2 = .ok (.iconst 0, 1) := by decide +kernel
theorem dX9_body_3 : decode cX9_body 3 = .ok (.bipush 7, 2) := by decide +kernel
theorem dX9_body_5 : decode cX9_body 5 = .ok (.invokevirtual 209, 3) := by decide +kernel
theorem dX9_body_8 : decode cX9_body 8 = .ok (.ifCond .ne 5, 3) := by decide +kernel
theorem dX9_body_11 : decode cX9_body 11 = .ok (.iconst (-1), 1) := by decide +kernel
theorem dX9_body_12 : decode cX9_body 12 = .ok (.ireturn, 1) := by decide +kernel
theorem dX9_body_13 : decode cX9_body 13 = .ok (.aload_n 0, 1) := by decide +kernel
theorem dX9_body_14 : decode cX9_body 14 = .ok (.getfield 184, 3) := by decide +kernel
theorem dX9_body_17 : decode cX9_body 17 = .ok (.bipush 50, 2) := by decide +kernel
theorem dX9_body_19 : decode cX9_body 19 = .ok (.if_icmp .ne 6, 3) := by decide +kernel
theorem dX9_body_22 : decode cX9_body 22 = .ok (.bipush (-3), 2) := by decide +kernel
theorem dX9_body_24 : decode cX9_body 24 = .ok (.ireturn, 1) := by decide +kernel
theorem dX9_body_25 : decode cX9_body 25 = .ok (.aload_n 0, 1) := by decide +kernel
theorem dX9_body_26 : decode cX9_body 26 = .ok (.getfield 190, 3) := by decide +kernel
theorem dX9_body_29 : decode cX9_body 29 = .ok (.aload_n 0, 1) := by decide +kernel
theorem dX9_body_30 : decode cX9_body 30 = .ok (.getfield 184, 3) := by decide +kernel
theorem dX9_body_33 : decode cX9_body 33 = .ok (.iload_n 1, 1) := by decide +kernel
theorem dX9_body_34 : decode cX9_body 34 = .ok (.iastore, 1) := by decide +kernel
theorem dX9_body_35 : decode cX9_body 35 = .ok (.aload_n 0, 1) := by decide +kernel
theorem dX9_body_36 : decode cX9_body 36 = .ok (.dup, 1) := by decide +kernel
theorem dX9_body_37 : decode cX9_body 37 = .ok (.getfield 184, 3) := by decide +kernel
theorem dX9_body_40 : decode cX9_body 40 = .ok (.iconst 1, 1) := by decide +kernel
theorem dX9_body_41 : decode cX9_body 41 = .ok (.iadd, 1) := by decide +kernel
theorem dX9_body_42 : decode cX9_body 42 = .ok (.putfield 184, 3) := by decide +kernel
theorem dX9_body_45 : decode cX9_body 45 = .ok (.aload_n 0, 1) := by decide +kernel
theorem dX9_body_46 : decode cX9_body 46 = .ok (.getfield 184, 3) := by decide +kernel
theorem dX9_body_49 : decode cX9_body 49 = .ok (.iconst 1, 1) := by decide +kernel
theorem dX9_body_50 : decode cX9_body 50 = .ok (.isub, 1) := by decide +kernel
theorem dX9_body_51 : decode cX9_body 51 = .ok (.ireturn, 1) := by decide +kernel
theorem dX9_runs_0 : decode cX9_runs 0 = .ok (.aload_n 0, 1) := by decide +kernel
theorem dX9_runs_1 : decode cX9_runs 1 = .ok (.getfield 187, 3) := by decide +kernel
theorem dX9_runs_4 : decode cX9_runs 4 = .ok (.bipush 24, 2) := by decide +kernel
theorem dX9_runs_6 : decode cX9_runs 6 = .ok (.if_icmp .ge 13, 3) := by decide +kernel
theorem dX9_runs_9 : decode cX9_runs 9 = .ok (.aload_n 0, 1) := by decide +kernel
theorem dX9_runs_10 : decode cX9_runs 10 = .ok (.getfield 193, 3) := by decide +kernel
theorem dX9_runs_13 : decode cX9_runs 13 = .ok (.aload_n 0, 1) := by decide +kernel
theorem dX9_runs_14 : decode cX9_runs 14 = .ok (.getfield 187, 3) := by decide +kernel
theorem dX9_runs_17 : decode cX9_runs 17 = .ok (.iload_n 1, 1) := by decide +kernel
theorem dX9_runs_18 : decode cX9_runs 18 = .ok (.iastore, 1) := by decide +kernel
theorem dX9_runs_19 : decode cX9_runs 19 = .ok (.aload_n 0, 1) := by decide +kernel
theorem dX9_runs_20 : decode cX9_runs 20 = .ok (.dup, 1) := by decide +kernel
theorem dX9_runs_21 : decode cX9_runs 21 = .ok (.getfield 187, 3) := by decide +kernel
theorem dX9_runs_24 : decode cX9_runs 24 = .ok (.iconst 1, 1) := by decide +kernel
theorem dX9_runs_25 : decode cX9_runs 25 = .ok (.iadd, 1) := by decide +kernel
theorem dX9_runs_26 : decode cX9_runs 26 = .ok (.putfield 187, 3) := by decide +kernel
theorem dX9_runs_29 : decode cX9_runs 29 = .ok (.return_, 1) := by decide +kernel
set_option maxRecDepth 20000 in
theorem ggX9_plainStands_X9_runs : GoodIn wsX9_plainStands wsX9_runs := goodIn_r _ [5, 6, 7, 8, 9, 10, 11, 12, 13, 14, 15, 16, 17, 18, 19, 20, 21, 22, 23, 24, 25, 26, 27, 28, 29, 30, 31, 32, 33, 34, 35, 36, 37, 38, 39, 40, 41, 42, 43, 44, 45, 46, 47, 48, 49, 50, 51, 52, 53, 54, 55, 56, 57, 58, 59, 60, 61, 62, 63, 64, 65, 66, 67, 68, 69, 70, 71, 72] rfl (by decide +kernel)
set_option maxRecDepth 20000 in
theorem gX9_plainStands_X9_runs : GoodIn wsX9_plainStands (wsV RX9 370 RX9 yX9_runs wsX9_runs) := goodIn_app (goodIn_of _ (by decide +kernel)) ggX9_plainStands_X9_runs
theorem dX9_plainStands_0 : decode cX9_plainStands 0 = .ok (.aload_n 0, 1) := by decide +kernel
theorem dX9_plainStands_1 : decode cX9_plainStands 1 = .ok (.iconst 1, 1) := by decide +kernel
theorem dX9_plainStands_2 : decode cX9_plainStands 2 = .ok (.invokevirtual 370, 3) := by decide +kernel
theorem dX9_plainStands_5 : decode cX9_plainStands 5 = .ok (.iload_n 2, 1) := by decide +kernel
theorem dX9_plainStands_6 : decode cX9_plainStands 6 = .ok (.iload_n 1, 1) := by decide +kernel
theorem dX9_plainStands_7 : decode cX9_plainStands 7 = .ok (.iadd, 1) := by decide +kernel
theorem dX9_plainStands_8 : decode cX9_plainStands 8 = .ok (.ireturn, 1) := by decide +kernel
set_option maxRecDepth 20000 in
theorem ggX9_goodStands_X9_runs : GoodIn wsX9_goodStands wsX9_runs := goodIn_r _ [5, 6, 7, 12, 13, 14, 15, 16, 17, 18, 19, 20, 21, 22, 23, 24, 25, 26, 27, 28, 29, 30, 31, 32, 33, 34, 35, 36, 37, 38, 39, 40, 41, 42, 43, 44, 45, 46, 47, 48, 49, 50, 51, 52, 53, 54, 55, 56, 57, 58, 59, 60, 61, 62, 63, 64, 65, 66, 67, 68, 69, 70, 71, 72, 73, 74, 75, 76] rfl (by decide +kernel)
set_option maxRecDepth 20000 in
theorem gX9_goodStands_X9_runs : GoodIn wsX9_goodStands (wsV RX9 370 RX9 yX9_runs wsX9_runs) := goodIn_app (goodIn_of _ (by decide +kernel)) ggX9_goodStands_X9_runs
set_option maxRecDepth 20000 in
theorem ggX9_goodStands_X9_plainStands : GoodIn wsX9_goodStands wsX9_plainStands := goodIn_r _ [11, 1, 2, 3, 4, 5, 6, 7, 12, 13, 14, 15, 16, 17, 18, 19, 20, 21, 22, 23, 24, 25, 26, 27, 28, 29, 30, 31, 32, 33, 34, 35, 36, 37, 38, 39, 40, 41, 42, 43, 44, 45, 46, 47, 48, 49, 50, 51, 52, 53, 54, 55, 56, 57, 58, 59, 60, 61, 62, 63, 64, 65, 66, 67, 68, 69, 70, 71, 72, 73, 74, 75, 76] rfl (by decide +kernel)
set_option maxRecDepth 20000 in
theorem gX9_goodStands_X9_plainStands : GoodIn wsX9_goodStands (wsV RX9 373 RX9 yX9_plainStands wsX9_plainStands) := goodIn_app (goodIn_of _ (by decide +kernel)) ggX9_goodStands_X9_plainStands
theorem dX9_goodStands_0 : decode cX9_goodStands 0 = .ok (.aload_n 0, 1) := by decide +kernel
theorem dX9_goodStands_1 : decode cX9_goodStands 1 = .ok (.bipush 20, 2) := by decide +kernel
theorem dX9_goodStands_3 : decode cX9_goodStands 3 = .ok (.invokevirtual 370, 3) := by decide +kernel
theorem dX9_goodStands_6 : decode cX9_goodStands 6 = .ok (.aload_n 0, 1) := by decide +kernel
theorem dX9_goodStands_7 : decode cX9_goodStands 7 = .ok (.iload_n 1, 1) := by decide +kernel
theorem dX9_goodStands_8 : decode cX9_goodStands 8 = .ok (.iload_n 2, 1) := by decide +kernel
theorem dX9_goodStands_9 : decode cX9_goodStands 9 = .ok (.invokevirtual 373, 3) := by decide +kernel
theorem dX9_goodStands_12 : decode cX9_goodStands 12 = .ok (.iconst 3, 1) := by decide +kernel
theorem dX9_goodStands_13 : decode cX9_goodStands 13 = .ok (.iadd, 1) := by decide +kernel
theorem dX9_goodStands_14 : decode cX9_goodStands 14 = .ok (.ireturn, 1) := by decide +kernel
set_option maxRecDepth 20000 in
theorem ggX9_standsAct_X9_goodStands : GoodIn wsX9_standsAct wsX9_goodStands := goodIn_r _ [6, 7, 8, 9, 5, 10, 11, 12, 13, 14, 15, 16, 17, 18, 19, 20, 21, 22, 23, 24, 25, 26, 27, 28, 29, 30, 31, 32, 33, 34, 35, 36, 37, 38, 39, 40, 41, 42, 43, 44, 45, 46, 47, 48, 49, 50, 51, 52, 53, 54, 55, 56, 57, 58, 59, 60, 61, 62, 63, 64, 65, 66, 67, 68, 69, 70, 71, 72, 73, 74, 75, 76, 77, 78, 79, 80, 81] rfl (by decide +kernel)
set_option maxRecDepth 20000 in
theorem gX9_standsAct_X9_goodStands : GoodIn wsX9_standsAct (wsV RX9 376 RX9 yX9_goodStands wsX9_goodStands) := goodIn_app (goodIn_of _ (by decide +kernel)) ggX9_standsAct_X9_goodStands
set_option maxRecDepth 20000 in
theorem ggX9_standsAct_X9_runs : GoodIn wsX9_standsAct wsX9_runs := goodIn_r _ [10, 11, 12, 17, 18, 19, 20, 21, 22, 23, 24, 25, 26, 27, 28, 29, 30, 31, 32, 33, 34, 35, 36, 37, 38, 39, 40, 41, 42, 43, 44, 45, 46, 47, 48, 49, 50, 51, 52, 53, 54, 55, 56, 57, 58, 59, 60, 61, 62, 63, 64, 65, 66, 67, 68, 69, 70, 71, 72, 73, 74, 75, 76, 77, 78, 79, 80, 81] rfl (by decide +kernel)
set_option maxRecDepth 20000 in
theorem gX9_standsAct_X9_runs : GoodIn wsX9_standsAct (wsV RX9 370 RX9 yX9_runs wsX9_runs) := goodIn_app (goodIn_of _ (by decide +kernel)) ggX9_standsAct_X9_runs
set_option maxRecDepth 20000 in
theorem ggX9_standsAct_X9_plainStands : GoodIn wsX9_standsAct wsX9_plainStands := goodIn_r _ [16, 7, 8, 9, 5, 10, 11, 12, 17, 18, 19, 20, 21, 22, 23, 24, 25, 26, 27, 28, 29, 30, 31, 32, 33, 34, 35, 36, 37, 38, 39, 40, 41, 42, 43, 44, 45, 46, 47, 48, 49, 50, 51, 52, 53, 54, 55, 56, 57, 58, 59, 60, 61, 62, 63, 64, 65, 66, 67, 68, 69, 70, 71, 72, 73, 74, 75, 76, 77, 78, 79, 80, 81] rfl (by decide +kernel)
set_option maxRecDepth 20000 in
theorem gX9_standsAct_X9_plainStands : GoodIn wsX9_standsAct (wsV RX9 373 RX9 yX9_plainStands wsX9_plainStands) := goodIn_app (goodIn_of _ (by decide +kernel)) ggX9_standsAct_X9_plainStands
theorem dX9_standsAct_0 : decode cX9_standsAct 0 = .ok (.aload_n 0, 1) := by decide +kernel
theorem dX9_standsAct_1 : decode cX9_standsAct 1 = .ok (.getfield 190, 3) := by decide +kernel
theorem dX9_standsAct_4 : decode cX9_standsAct 4 = .ok (.iload_n 1, 1) := by decide +kernel
theorem dX9_standsAct_5 : decode cX9_standsAct 5 = .ok (.iaload, 1) := by decide +kernel
theorem dX9_standsAct_6 : decode cX9_standsAct 6 = .ok (.tableswitch 79 1 7 #[42, 79, 42, 79, 79, 49, 64], 42) := by decide +kernel
theorem dX9_standsAct_48 : decode cX9_standsAct 48 = .ok (.aload_n 0, 1) := by decide +kernel
theorem dX9_standsAct_49 : decode cX9_standsAct 49 = .ok (.iload_n 1, 1) := by decide +kernel
theorem dX9_standsAct_50 : decode cX9_standsAct 50 = .ok (.iload_n 2, 1) := by decide +kernel
theorem dX9_standsAct_51 : decode cX9_standsAct 51 = .ok (.invokevirtual 376, 3) := by decide +kernel
theorem dX9_standsAct_54 : decode cX9_standsAct 54 = .ok (.ireturn, 1) := by decide +kernel
theorem dX9_standsAct_55 : decode cX9_standsAct 55 = .ok (.aload_n 0, 1) := by decide +kernel
theorem dX9_standsAct_56 : decode cX9_standsAct 56 = .ok (.bipush 70, 2) := by decide +kernel
theorem dX9_standsAct_58 : decode cX9_standsAct 58 = .ok (.invokevirtual 370, 3) := by decide +kernel
theorem dX9_standsAct_61 : decode cX9_standsAct 61 = .ok (.aload_n 0, 1) := by decide +kernel
theorem dX9_standsAct_62 : decode cX9_standsAct 62 = .ok (.iload_n 1, 1) := by decide +kernel
theorem dX9_standsAct_63 : decode cX9_standsAct 63 = .ok (.iload_n 2, 1) := by decide +kernel
theorem dX9_standsAct_64 : decode cX9_standsAct 64 = .ok (.invokevirtual 373, 3) := by decide +kernel
theorem dX9_standsAct_67 : decode cX9_standsAct 67 = .ok (.iconst 2, 1) := by decide +kernel
theorem dX9_standsAct_68 : decode cX9_standsAct 68 = .ok (.imul, 1) := by decide +kernel
theorem dX9_standsAct_69 : decode cX9_standsAct 69 = .ok (.ireturn, 1) := by decide +kernel
theorem dX9_standsAct_70 : decode cX9_standsAct 70 = .ok (.aload_n 0, 1) := by decide +kernel
theorem dX9_standsAct_71 : decode cX9_standsAct 71 = .ok (.bipush 81, 2) := by decide +kernel
theorem dX9_standsAct_73 : decode cX9_standsAct 73 = .ok (.invokevirtual 370, 3) := by decide +kernel
theorem dX9_standsAct_76 : decode cX9_standsAct 76 = .ok (.aload_n 0, 1) := by decide +kernel
theorem dX9_standsAct_77 : decode cX9_standsAct 77 = .ok (.iload_n 1, 1) := by decide +kernel
theorem dX9_standsAct_78 : decode cX9_standsAct 78 = .ok (.iload_n 2, 1) := by decide +kernel
theorem dX9_standsAct_79 : decode cX9_standsAct 79 = .ok (.invokevirtual 376, 3) := by decide +kernel
theorem dX9_standsAct_82 : decode cX9_standsAct 82 = .ok (.iconst 1, 1) := by decide +kernel
theorem dX9_standsAct_83 : decode cX9_standsAct 83 = .ok (.isub, 1) := by decide +kernel
theorem dX9_standsAct_84 : decode cX9_standsAct 84 = .ok (.ireturn, 1) := by decide +kernel
theorem dX9_standsAct_85 : decode cX9_standsAct 85 = .ok (.aload_n 0, 1) := by decide +kernel
theorem dX9_standsAct_86 : decode cX9_standsAct 86 = .ok (.iload_n 1, 1) := by decide +kernel
theorem dX9_standsAct_87 : decode cX9_standsAct 87 = .ok (.iload_n 2, 1) := by decide +kernel
theorem dX9_standsAct_88 : decode cX9_standsAct 88 = .ok (.invokevirtual 373, 3) := by decide +kernel
theorem dX9_standsAct_91 : decode cX9_standsAct 91 = .ok (.ireturn, 1) := by decide +kernel
set_option maxRecDepth 20000 in
theorem ggX9_plainRides_X9_runs : GoodIn wsX9_plainRides wsX9_runs := goodIn_r _ [5, 6, 7, 8, 9, 10, 11, 12, 13, 14, 15, 16, 17, 18, 19, 20, 21, 22, 23, 24, 25, 26, 27, 28, 29, 30, 31, 32, 33, 34, 35, 36, 37, 38, 39, 40, 41, 42, 43, 44, 45, 46, 47, 48, 49, 50, 51, 52, 53, 54, 55, 56, 57, 58, 59, 60, 61, 62, 63, 64, 65, 66, 67, 68, 69, 70, 71, 72] rfl (by decide +kernel)
set_option maxRecDepth 20000 in
theorem gX9_plainRides_X9_runs : GoodIn wsX9_plainRides (wsV RX9 370 RX9 yX9_runs wsX9_runs) := goodIn_app (goodIn_of _ (by decide +kernel)) ggX9_plainRides_X9_runs
theorem dX9_plainRides_0 : decode cX9_plainRides 0 = .ok (.aload_n 0, 1) := by decide +kernel
theorem dX9_plainRides_1 : decode cX9_plainRides 1 = .ok (.bipush 11, 2) := by decide +kernel
theorem dX9_plainRides_3 : decode cX9_plainRides 3 = .ok (.invokevirtual 370, 3) := by decide +kernel
theorem dX9_plainRides_6 : decode cX9_plainRides 6 = .ok (.iload_n 2, 1) := by decide +kernel
theorem dX9_plainRides_7 : decode cX9_plainRides 7 = .ok (.iload_n 1, 1) := by decide +kernel
theorem dX9_plainRides_8 : decode cX9_plainRides 8 = .ok (.ixor, 1) := by decide +kernel
theorem dX9_plainRides_9 : decode cX9_plainRides 9 = .ok (.ireturn, 1) := by decide +kernel
set_option maxRecDepth 20000 in
theorem ggX9_ridesAct_X9_runs : GoodIn wsX9_ridesAct wsX9_runs := goodIn_r _ [6, 7, 8, 25, 26, 27, 28, 29, 30, 31, 32, 33, 34, 35, 36, 37, 38, 39, 40, 41, 42, 43, 44, 45, 46, 47, 48, 49, 50, 51, 52, 53, 54, 55, 56, 57, 58, 59, 60, 61, 62, 63, 64, 65, 66, 67, 68, 69, 70, 71, 72, 73, 74, 75, 76, 77, 78, 79, 80, 81, 82, 83, 84, 85, 86, 87, 88, 89] rfl (by decide +kernel)
set_option maxRecDepth 20000 in
theorem gX9_ridesAct_X9_runs : GoodIn wsX9_ridesAct (wsV RX9 370 RX9 yX9_runs wsX9_runs) := goodIn_app (goodIn_of _ (by decide +kernel)) ggX9_ridesAct_X9_runs
set_option maxRecDepth 20000 in
theorem ggX9_ridesAct_X9_plainRides : GoodIn wsX9_ridesAct wsX9_plainRides := goodIn_r _ [12, 2, 3, 4, 5, 6, 7, 8, 25, 26, 27, 28, 29, 30, 31, 32, 33, 34, 35, 36, 37, 38, 39, 40, 41, 42, 43, 44, 45, 46, 47, 48, 49, 50, 51, 52, 53, 54, 55, 56, 57, 58, 59, 60, 61, 62, 63, 64, 65, 66, 67, 68, 69, 70, 71, 72, 73, 74, 75, 76, 77, 78, 79, 80, 81, 82, 83, 84, 85, 86, 87, 88, 89] rfl (by decide +kernel)
set_option maxRecDepth 20000 in
theorem gX9_ridesAct_X9_plainRides : GoodIn wsX9_ridesAct (wsV RX9 379 RX9 yX9_plainRides wsX9_plainRides) := goodIn_app (goodIn_of _ (by decide +kernel)) ggX9_ridesAct_X9_plainRides
set_option maxRecDepth 20000 in
theorem ggX9_ridesAct_X9_standsAct : GoodIn wsX9_ridesAct wsX9_standsAct := goodIn_r _ [16, 1, 17, 18, 19, 5, 20, 2, 3, 4, 6, 7, 8, 21, 22, 23, 24, 25, 26, 27, 28, 29, 30, 31, 32, 33, 34, 35, 36, 37, 38, 39, 40, 41, 42, 43, 44, 45, 46, 47, 48, 49, 50, 51, 52, 53, 54, 55, 56, 57, 58, 59, 60, 61, 62, 63, 64, 65, 66, 67, 68, 69, 70, 71, 72, 73, 74, 75, 76, 77, 78, 79, 80, 81, 82, 83, 84, 85, 86, 87, 88, 89] rfl (by decide +kernel)
set_option maxRecDepth 20000 in
theorem gX9_ridesAct_X9_standsAct : GoodIn wsX9_ridesAct (wsV RX9 382 RX9 yX9_standsAct wsX9_standsAct) := goodIn_app (goodIn_of _ (by decide +kernel)) ggX9_ridesAct_X9_standsAct
theorem dX9_ridesAct_0 : decode cX9_ridesAct 0 = .ok (.aload_n 0, 1) := by decide +kernel
theorem dX9_ridesAct_1 : decode cX9_ridesAct 1 = .ok (.getfield 190, 3) := by decide +kernel
theorem dX9_ridesAct_4 : decode cX9_ridesAct 4 = .ok (.iload_n 1, 1) := by decide +kernel
theorem dX9_ridesAct_5 : decode cX9_ridesAct 5 = .ok (.iaload, 1) := by decide +kernel
theorem dX9_ridesAct_6 : decode cX9_ridesAct 6 = .ok (.tableswitch 71 3 7 #[34, 71, 49, 71, 34], 34) := by decide +kernel
theorem dX9_ridesAct_40 : decode cX9_ridesAct 40 = .ok (.aload_n 0, 1) := by decide +kernel
theorem dX9_ridesAct_41 : decode cX9_ridesAct 41 = .ok (.bipush 40, 2) := by decide +kernel
theorem dX9_ridesAct_43 : decode cX9_ridesAct 43 = .ok (.invokevirtual 370, 3) := by decide +kernel
theorem dX9_ridesAct_46 : decode cX9_ridesAct 46 = .ok (.aload_n 0, 1) := by decide +kernel
theorem dX9_ridesAct_47 : decode cX9_ridesAct 47 = .ok (.iload_n 1, 1) := by decide +kernel
theorem dX9_ridesAct_48 : decode cX9_ridesAct 48 = .ok (.iload_n 2, 1) := by decide +kernel
theorem dX9_ridesAct_49 : decode cX9_ridesAct 49 = .ok (.invokevirtual 379, 3) := by decide +kernel
theorem dX9_ridesAct_52 : decode cX9_ridesAct 52 = .ok (.iconst 3, 1) := by decide +kernel
theorem dX9_ridesAct_53 : decode cX9_ridesAct 53 = .ok (.imul, 1) := by decide +kernel
theorem dX9_ridesAct_54 : decode cX9_ridesAct 54 = .ok (.ireturn, 1) := by decide +kernel
theorem dX9_ridesAct_55 : decode cX9_ridesAct 55 = .ok (.aload_n 0, 1) := by decide +kernel
theorem dX9_ridesAct_56 : decode cX9_ridesAct 56 = .ok (.bipush 60, 2) := by decide +kernel
theorem dX9_ridesAct_58 : decode cX9_ridesAct 58 = .ok (.invokevirtual 370, 3) := by decide +kernel
theorem dX9_ridesAct_61 : decode cX9_ridesAct 61 = .ok (.aload_n 0, 1) := by decide +kernel
theorem dX9_ridesAct_62 : decode cX9_ridesAct 62 = .ok (.iload_n 1, 1) := by decide +kernel
theorem dX9_ridesAct_63 : decode cX9_ridesAct 63 = .ok (.iload_n 2, 1) := by decide +kernel
theorem dX9_ridesAct_64 : decode cX9_ridesAct 64 = .ok (.invokevirtual 379, 3) := by decide +kernel
theorem dX9_ridesAct_67 : decode cX9_ridesAct 67 = .ok (.istore_n 3, 1) := by decide +kernel
theorem dX9_ridesAct_68 : decode cX9_ridesAct 68 = .ok (.iload_n 3, 1) := by decide +kernel
theorem dX9_ridesAct_69 : decode cX9_ridesAct 69 = .ok (.aload_n 0, 1) := by decide +kernel
theorem dX9_ridesAct_70 : decode cX9_ridesAct 70 = .ok (.iload_n 1, 1) := by decide +kernel
theorem dX9_ridesAct_71 : decode cX9_ridesAct 71 = .ok (.iconst 2, 1) := by decide +kernel
theorem dX9_ridesAct_72 : decode cX9_ridesAct 72 = .ok (.invokevirtual 382, 3) := by decide +kernel
theorem dX9_ridesAct_75 : decode cX9_ridesAct 75 = .ok (.isub, 1) := by decide +kernel
theorem dX9_ridesAct_76 : decode cX9_ridesAct 76 = .ok (.ireturn, 1) := by decide +kernel
theorem dX9_ridesAct_77 : decode cX9_ridesAct 77 = .ok (.aload_n 0, 1) := by decide +kernel
theorem dX9_ridesAct_78 : decode cX9_ridesAct 78 = .ok (.iload_n 1, 1) := by decide +kernel
theorem dX9_ridesAct_79 : decode cX9_ridesAct 79 = .ok (.iload_n 2, 1) := by decide +kernel
theorem dX9_ridesAct_80 : decode cX9_ridesAct 80 = .ok (.invokevirtual 379, 3) := by decide +kernel
theorem dX9_ridesAct_83 : decode cX9_ridesAct 83 = .ok (.ireturn, 1) := by decide +kernel
set_option maxRecDepth 20000 in
theorem ggX9_plainStops_X9_runs : GoodIn wsX9_plainStops wsX9_runs := goodIn_r _ [5, 6, 7, 21, 22, 23, 24, 25, 26, 27, 28, 29, 30, 31, 32, 33, 34, 35, 36, 37, 38, 39, 40, 41, 42, 43, 44, 45, 46, 47, 48, 49, 50, 51, 52, 53, 54, 55, 56, 57, 58, 59, 60, 61, 62, 63, 64, 65, 66, 67, 68, 69, 70, 71, 72, 73, 74, 75, 76, 77, 78, 79, 80, 81, 82, 83, 84, 85] rfl (by decide +kernel)
set_option maxRecDepth 20000 in
theorem gX9_plainStops_X9_runs : GoodIn wsX9_plainStops (wsV RX9 370 RX9 yX9_runs wsX9_runs) := goodIn_app (goodIn_of _ (by decide +kernel)) ggX9_plainStops_X9_runs
set_option maxRecDepth 20000 in
theorem ggX9_plainStops_X9_standsAct : GoodIn wsX9_plainStops wsX9_standsAct := goodIn_r _ [11, 12, 13, 14, 15, 4, 16, 1, 2, 3, 5, 6, 7, 17, 18, 19, 20, 21, 22, 23, 24, 25, 26, 27, 28, 29, 30, 31, 32, 33, 34, 35, 36, 37, 38, 39, 40, 41, 42, 43, 44, 45, 46, 47, 48, 49, 50, 51, 52, 53, 54, 55, 56, 57, 58, 59, 60, 61, 62, 63, 64, 65, 66, 67, 68, 69, 70, 71, 72, 73, 74, 75, 76, 77, 78, 79, 80, 81, 82, 83, 84, 85] rfl (by decide +kernel)
set_option maxRecDepth 20000 in
theorem gX9_plainStops_X9_standsAct : GoodIn wsX9_plainStops (wsV RX9 382 RX9 yX9_standsAct wsX9_standsAct) := goodIn_app (goodIn_of _ (by decide +kernel)) ggX9_plainStops_X9_standsAct
theorem dX9_plainStops_0 : decode cX9_plainStops 0 = .ok (.aload_n 0, 1) := by decide +kernel
theorem dX9_plainStops_1 : decode cX9_plainStops 1 = .ok (.bipush 10, 2) := by decide +kernel
theorem dX9_plainStops_3 : decode cX9_plainStops 3 = .ok (.invokevirtual 370, 3) := by decide +kernel
theorem dX9_plainStops_6 : decode cX9_plainStops 6 = .ok (.aload_n 0, 1) := by decide +kernel
theorem dX9_plainStops_7 : decode cX9_plainStops 7 = .ok (.iload_n 1, 1) := by decide +kernel
theorem dX9_plainStops_8 : decode cX9_plainStops 8 = .ok (.iload_n 2, 1) := by decide +kernel
theorem dX9_plainStops_9 : decode cX9_plainStops 9 = .ok (.invokevirtual 382, 3) := by decide +kernel
theorem dX9_plainStops_12 : decode cX9_plainStops 12 = .ok (.iconst 2, 1) := by decide +kernel
theorem dX9_plainStops_13 : decode cX9_plainStops 13 = .ok (.imul, 1) := by decide +kernel
theorem dX9_plainStops_14 : decode cX9_plainStops 14 = .ok (.ireturn, 1) := by decide +kernel
set_option maxRecDepth 20000 in
theorem ggX9_askingStops_X9_runs : GoodIn wsX9_askingStops wsX9_runs := goodIn_r _ [5, 6, 7, 25, 26, 27, 28, 29, 30, 31, 32, 33, 34, 35, 36, 37, 38, 39, 40, 41, 42, 43, 44, 45, 46, 47, 48, 49, 50, 51, 52, 53, 54, 55, 56, 57, 58, 59, 60, 61, 62, 63, 64, 65, 66, 67, 68, 69, 70, 71, 72, 73, 74, 75, 76, 77, 78, 79, 80, 81, 82, 83, 84, 85, 86, 87, 88, 89] rfl (by decide +kernel)
set_option maxRecDepth 20000 in
theorem gX9_askingStops_X9_runs : GoodIn wsX9_askingStops (wsV RX9 370 RX9 yX9_runs wsX9_runs) := goodIn_app (goodIn_of _ (by decide +kernel)) ggX9_askingStops_X9_runs
set_option maxRecDepth 20000 in
theorem ggX9_askingStops_X9_plainStops : GoodIn wsX9_askingStops wsX9_plainStops := goodIn_r _ [11, 1, 2, 3, 4, 5, 6, 7, 12, 13, 14, 15, 16, 17, 18, 19, 20, 21, 22, 23, 24, 25, 26, 27, 28, 29, 30, 31, 32, 33, 34, 35, 36, 37, 38, 39, 40, 41, 42, 43, 44, 45, 46, 47, 48, 49, 50, 51, 52, 53, 54, 55, 56, 57, 58, 59, 60, 61, 62, 63, 64, 65, 66, 67, 68, 69, 70, 71, 72, 73, 74, 75, 76, 77, 78, 79, 80, 81, 82, 83, 84, 85, 86, 87, 88, 89] rfl (by decide +kernel)
set_option maxRecDepth 20000 in
theorem gX9_askingStops_X9_plainStops : GoodIn wsX9_askingStops (wsV RX9 385 RX9 yX9_plainStops wsX9_plainStops) := goodIn_app (goodIn_of _ (by decide +kernel)) ggX9_askingStops_X9_plainStops
theorem dX9_askingStops_0 : decode cX9_askingStops 0 = .ok (.aload_n 0, 1) := by decide +kernel
theorem dX9_askingStops_1 : decode cX9_askingStops 1 = .ok (.bipush 41, 2) := by decide +kernel
theorem dX9_askingStops_3 : decode cX9_askingStops 3 = .ok (.invokevirtual 370, 3) := by decide +kernel
theorem dX9_askingStops_6 : decode cX9_askingStops 6 = .ok (.aload_n 0, 1) := by decide +kernel
theorem dX9_askingStops_7 : decode cX9_askingStops 7 = .ok (.iload_n 1, 1) := by decide +kernel
theorem dX9_askingStops_8 : decode cX9_askingStops 8 = .ok (.iload_n 2, 1) := by decide +kernel
theorem dX9_askingStops_9 : decode cX9_askingStops 9 = .ok (.iconst 1, 1) := by decide +kernel
theorem dX9_askingStops_10 : decode cX9_askingStops 10 = .ok (.iadd, 1) := by decide +kernel
theorem dX9_askingStops_11 : decode cX9_askingStops 11 = .ok (.invokevirtual 385, 3) := by decide +kernel
theorem dX9_askingStops_14 : decode cX9_askingStops 14 = .ok (.ireturn, 1) := by decide +kernel
set_option maxRecDepth 20000 in
theorem ggX9_stopsAct_X9_runs : GoodIn wsX9_stopsAct wsX9_runs := goodIn_r _ [6, 7, 8, 37, 38, 39, 40, 41, 42, 43, 44, 45, 46, 47, 48, 49, 50, 51, 52, 53, 54, 55, 56, 57, 58, 59, 60, 61, 62, 63, 64, 65, 66, 67, 68, 69, 70, 71, 72, 73, 74, 75, 76, 77, 78, 79, 80, 81, 82, 83, 84, 85, 86, 87, 88, 89, 90, 91, 92, 93, 94, 95, 96, 97, 98, 99, 100, 101] rfl (by decide +kernel)
set_option maxRecDepth 20000 in
theorem gX9_stopsAct_X9_runs : GoodIn wsX9_stopsAct (wsV RX9 370 RX9 yX9_runs wsX9_runs) := goodIn_app (goodIn_of _ (by decide +kernel)) ggX9_stopsAct_X9_runs
set_option maxRecDepth 20000 in
theorem ggX9_stopsAct_X9_plainStops : GoodIn wsX9_stopsAct wsX9_plainStops := goodIn_r _ [12, 2, 3, 4, 5, 6, 7, 8, 13, 14, 15, 16, 1, 17, 18, 19, 20, 21, 22, 23, 24, 37, 38, 39, 40, 41, 42, 43, 44, 45, 46, 47, 48, 49, 50, 51, 52, 53, 54, 55, 56, 57, 58, 59, 60, 61, 62, 63, 64, 65, 66, 67, 68, 69, 70, 71, 72, 73, 74, 75, 76, 77, 78, 79, 80, 81, 82, 83, 84, 85, 86, 87, 88, 89, 90, 91, 92, 93, 94, 95, 96, 97, 98, 99, 100, 101] rfl (by decide +kernel)
set_option maxRecDepth 20000 in
theorem gX9_stopsAct_X9_plainStops : GoodIn wsX9_stopsAct (wsV RX9 385 RX9 yX9_plainStops wsX9_plainStops) := goodIn_app (goodIn_of _ (by decide +kernel)) ggX9_stopsAct_X9_plainStops
set_option maxRecDepth 20000 in
theorem ggX9_stopsAct_X9_askingStops : GoodIn wsX9_stopsAct wsX9_askingStops := goodIn_r _ [28, 2, 3, 4, 5, 6, 7, 8, 9, 10, 11, 12, 13, 14, 15, 16, 1, 17, 18, 19, 20, 21, 22, 23, 24, 37, 38, 39, 40, 41, 42, 43, 44, 45, 46, 47, 48, 49, 50, 51, 52, 53, 54, 55, 56, 57, 58, 59, 60, 61, 62, 63, 64, 65, 66, 67, 68, 69, 70, 71, 72, 73, 74, 75, 76, 77, 78, 79, 80, 81, 82, 83, 84, 85, 86, 87, 88, 89, 90, 91, 92, 93, 94, 95, 96, 97, 98, 99, 100, 101] rfl (by decide +kernel)
set_option maxRecDepth 20000 in
theorem gX9_stopsAct_X9_askingStops : GoodIn wsX9_stopsAct (wsV RX9 388 RX9 yX9_askingStops wsX9_askingStops) := goodIn_app (goodIn_of _ (by decide +kernel)) ggX9_stopsAct_X9_askingStops
set_option maxRecDepth 20000 in
theorem ggX9_stopsAct_X9_ridesAct : GoodIn wsX9_stopsAct wsX9_ridesAct := goodIn_r _ [32, 1, 2, 3, 4, 5, 6, 7, 8, 33, 34, 35, 36, 13, 14, 15, 16, 17, 18, 19, 20, 21, 22, 23, 24, 37, 38, 39, 40, 41, 42, 43, 44, 45, 46, 47, 48, 49, 50, 51, 52, 53, 54, 55, 56, 57, 58, 59, 60, 61, 62, 63, 64, 65, 66, 67, 68, 69, 70, 71, 72, 73, 74, 75, 76, 77, 78, 79, 80, 81, 82, 83, 84, 85, 86, 87, 88, 89, 90, 91, 92, 93, 94, 95, 96, 97, 98, 99, 100, 101] rfl (by decide +kernel)
set_option maxRecDepth 20000 in
theorem gX9_stopsAct_X9_ridesAct : GoodIn wsX9_stopsAct (wsV RX9 391 RX9 yX9_ridesAct wsX9_ridesAct) := goodIn_app (goodIn_of _ (by decide +kernel)) ggX9_stopsAct_X9_ridesAct
theorem dX9_stopsAct_0 : decode cX9_stopsAct 0 = .ok (.aload_n 0, 1) := by decide +kernel
theorem dX9_stopsAct_1 : decode cX9_stopsAct 1 = .ok (.getfield 190, 3) := by decide +kernel
theorem dX9_stopsAct_4 : decode cX9_stopsAct 4 = .ok (.iload_n 1, 1) := by decide +kernel
theorem dX9_stopsAct_5 : decode cX9_stopsAct 5 = .ok (.iaload, 1) := by decide +kernel
theorem dX9_stopsAct_6 : decode cX9_stopsAct 6 = .ok (.tableswitch 81 2 7 #[38, 52, 81, 38, 81, 59], 38) := by decide +kernel
theorem dX9_stopsAct_44 : decode cX9_stopsAct 44 = .ok (.aload_n 0, 1) := by decide +kernel
theorem dX9_stopsAct_45 : decode cX9_stopsAct 45 = .ok (.bipush 30, 2) := by decide +kernel
theorem dX9_stopsAct_47 : decode cX9_stopsAct 47 = .ok (.invokevirtual 370, 3) := by decide +kernel
theorem dX9_stopsAct_50 : decode cX9_stopsAct 50 = .ok (.aload_n 0, 1) := by decide +kernel
theorem dX9_stopsAct_51 : decode cX9_stopsAct 51 = .ok (.iload_n 1, 1) := by decide +kernel
theorem dX9_stopsAct_52 : decode cX9_stopsAct 52 = .ok (.iload_n 2, 1) := by decide +kernel
theorem dX9_stopsAct_53 : decode cX9_stopsAct 53 = .ok (.invokevirtual 385, 3) := by decide +kernel
theorem dX9_stopsAct_56 : decode cX9_stopsAct 56 = .ok (.ineg, 1) := by decide +kernel
theorem dX9_stopsAct_57 : decode cX9_stopsAct 57 = .ok (.ireturn, 1) := by decide +kernel
theorem dX9_stopsAct_58 : decode cX9_stopsAct 58 = .ok (.aload_n 0, 1) := by decide +kernel
theorem dX9_stopsAct_59 : decode cX9_stopsAct 59 = .ok (.iload_n 1, 1) := by decide +kernel
theorem dX9_stopsAct_60 : decode cX9_stopsAct 60 = .ok (.iload_n 2, 1) := by decide +kernel
theorem dX9_stopsAct_61 : decode cX9_stopsAct 61 = .ok (.invokevirtual 388, 3) := by decide +kernel
theorem dX9_stopsAct_64 : decode cX9_stopsAct 64 = .ok (.ireturn, 1) := by decide +kernel
theorem dX9_stopsAct_65 : decode cX9_stopsAct 65 = .ok (.aload_n 0, 1) := by decide +kernel
theorem dX9_stopsAct_66 : decode cX9_stopsAct 66 = .ok (.bipush 80, 2) := by decide +kernel
theorem dX9_stopsAct_68 : decode cX9_stopsAct 68 = .ok (.invokevirtual 370, 3) := by decide +kernel
theorem dX9_stopsAct_71 : decode cX9_stopsAct 71 = .ok (.aload_n 0, 1) := by decide +kernel
theorem dX9_stopsAct_72 : decode cX9_stopsAct 72 = .ok (.iload_n 1, 1) := by decide +kernel
theorem dX9_stopsAct_73 : decode cX9_stopsAct 73 = .ok (.iload_n 2, 1) := by decide +kernel
theorem dX9_stopsAct_74 : decode cX9_stopsAct 74 = .ok (.invokevirtual 388, 3) := by decide +kernel
theorem dX9_stopsAct_77 : decode cX9_stopsAct 77 = .ok (.istore_n 3, 1) := by decide +kernel
theorem dX9_stopsAct_78 : decode cX9_stopsAct 78 = .ok (.iload_n 3, 1) := by decide +kernel
theorem dX9_stopsAct_79 : decode cX9_stopsAct 79 = .ok (.aload_n 0, 1) := by decide +kernel
theorem dX9_stopsAct_80 : decode cX9_stopsAct 80 = .ok (.iload_n 1, 1) := by decide +kernel
theorem dX9_stopsAct_81 : decode cX9_stopsAct 81 = .ok (.iconst 2, 1) := by decide +kernel
theorem dX9_stopsAct_82 : decode cX9_stopsAct 82 = .ok (.invokevirtual 391, 3) := by decide +kernel
theorem dX9_stopsAct_85 : decode cX9_stopsAct 85 = .ok (.iadd, 1) := by decide +kernel
theorem dX9_stopsAct_86 : decode cX9_stopsAct 86 = .ok (.ireturn, 1) := by decide +kernel
theorem dX9_stopsAct_87 : decode cX9_stopsAct 87 = .ok (.aload_n 0, 1) := by decide +kernel
theorem dX9_stopsAct_88 : decode cX9_stopsAct 88 = .ok (.iload_n 1, 1) := by decide +kernel
theorem dX9_stopsAct_89 : decode cX9_stopsAct 89 = .ok (.iload_n 2, 1) := by decide +kernel
theorem dX9_stopsAct_90 : decode cX9_stopsAct 90 = .ok (.invokevirtual 385, 3) := by decide +kernel
theorem dX9_stopsAct_93 : decode cX9_stopsAct 93 = .ok (.ireturn, 1) := by decide +kernel
set_option maxRecDepth 20000 in
theorem ggX9_plainChooses_X9_runs : GoodIn wsX9_plainChooses wsX9_runs := goodIn_r _ [5, 6, 7, 41, 42, 43, 44, 45, 46, 47, 48, 49, 50, 51, 52, 53, 54, 55, 56, 57, 58, 59, 60, 61, 62, 63, 64, 65, 66, 67, 68, 69, 70, 71, 72, 73, 74, 75, 76, 77, 78, 79, 80, 81, 82, 83, 84, 85, 86, 87, 88, 89, 90, 91, 92, 93, 94, 95, 96, 97, 98, 99, 100, 101, 102, 103, 104, 105] rfl (by decide +kernel)
set_option maxRecDepth 20000 in
theorem gX9_plainChooses_X9_runs : GoodIn wsX9_plainChooses (wsV RX9 370 RX9 yX9_runs wsX9_runs) := goodIn_app (goodIn_of _ (by decide +kernel)) ggX9_plainChooses_X9_runs
set_option maxRecDepth 20000 in
theorem ggX9_plainChooses_X9_stopsAct : GoodIn wsX9_plainChooses wsX9_stopsAct := goodIn_r _ [11, 12, 1, 2, 3, 4, 5, 6, 7, 13, 14, 15, 16, 17, 18, 19, 20, 21, 22, 23, 24, 25, 26, 27, 28, 29, 30, 31, 32, 33, 34, 35, 36, 37, 38, 39, 40, 41, 42, 43, 44, 45, 46, 47, 48, 49, 50, 51, 52, 53, 54, 55, 56, 57, 58, 59, 60, 61, 62, 63, 64, 65, 66, 67, 68, 69, 70, 71, 72, 73, 74, 75, 76, 77, 78, 79, 80, 81, 82, 83, 84, 85, 86, 87, 88, 89, 90, 91, 92, 93, 94, 95, 96, 97, 98, 99, 100, 101, 102, 103, 104, 105] rfl (by decide +kernel)
set_option maxRecDepth 20000 in
theorem gX9_plainChooses_X9_stopsAct : GoodIn wsX9_plainChooses (wsV RX9 394 RX9 yX9_stopsAct wsX9_stopsAct) := goodIn_app (goodIn_of _ (by decide +kernel)) ggX9_plainChooses_X9_stopsAct
set_option maxRecDepth 20000 in
theorem ggX9_plainChooses_X9_ridesAct : GoodIn wsX9_plainChooses wsX9_ridesAct := goodIn_r _ [36, 12, 1, 2, 3, 4, 5, 6, 7, 37, 38, 39, 40, 17, 18, 19, 20, 21, 22, 23, 24, 25, 26, 27, 28, 41, 42, 43, 44, 45, 46, 47, 48, 49, 50, 51, 52, 53, 54, 55, 56, 57, 58, 59, 60, 61, 62, 63, 64, 65, 66, 67, 68, 69, 70, 71, 72, 73, 74, 75, 76, 77, 78, 79, 80, 81, 82, 83, 84, 85, 86, 87, 88, 89, 90, 91, 92, 93, 94, 95, 96, 97, 98, 99, 100, 101, 102, 103, 104, 105] rfl (by decide +kernel)
set_option maxRecDepth 20000 in
theorem gX9_plainChooses_X9_ridesAct : GoodIn wsX9_plainChooses (wsV RX9 391 RX9 yX9_ridesAct wsX9_ridesAct) := goodIn_app (goodIn_of _ (by decide +kernel)) ggX9_plainChooses_X9_ridesAct
theorem dX9_plainChooses_0 : decode cX9_plainChooses 0 = .ok (.aload_n 0, 1) := by decide +kernel
theorem dX9_plainChooses_1 : decode cX9_plainChooses 1 = .ok (.iconst 2, 1) := by decide +kernel
theorem dX9_plainChooses_2 : decode cX9_plainChooses 2 = .ok (.invokevirtual 370, 3) := by decide +kernel
theorem dX9_plainChooses_5 : decode cX9_plainChooses 5 = .ok (.aload_n 0, 1) := by decide +kernel
theorem dX9_plainChooses_6 : decode cX9_plainChooses 6 = .ok (.iload_n 1, 1) := by decide +kernel
theorem dX9_plainChooses_7 : decode cX9_plainChooses 7 = .ok (.iload_n 2, 1) := by decide +kernel
theorem dX9_plainChooses_8 : decode cX9_plainChooses 8 = .ok (.invokevirtual 394, 3) := by decide +kernel
theorem dX9_plainChooses_11 : decode cX9_plainChooses 11 = .ok (.istore_n 3, 1) := by decide +kernel
theorem dX9_plainChooses_12 : decode cX9_plainChooses 12 = .ok (.iload_n 3, 1) := by decide +kernel
theorem dX9_plainChooses_13 : decode cX9_plainChooses 13 = .ok (.aload_n 0, 1) := by decide +kernel
theorem dX9_plainChooses_14 : decode cX9_plainChooses 14 = .ok (.iload_n 1, 1) := by decide +kernel
theorem dX9_plainChooses_15 : decode cX9_plainChooses 15 = .ok (.iconst 1, 1) := by decide +kernel
theorem dX9_plainChooses_16 : decode cX9_plainChooses 16 = .ok (.invokevirtual 391, 3) := by decide +kernel
theorem dX9_plainChooses_19 : decode cX9_plainChooses 19 = .ok (.isub, 1) := by decide +kernel
theorem dX9_plainChooses_20 : decode cX9_plainChooses 20 = .ok (.ireturn, 1) := by decide +kernel
set_option maxRecDepth 20000 in
theorem ggX9_choosesAct_X9_runs : GoodIn wsX9_choosesAct wsX9_runs := goodIn_r _ [6, 7, 8, 45, 46, 47, 48, 49, 50, 51, 52, 53, 54, 55, 56, 57, 58, 59, 60, 61, 62, 63, 64, 65, 66, 67, 68, 69, 70, 71, 72, 73, 74, 75, 76, 77, 78, 79, 80, 81, 82, 83, 84, 85, 86, 87, 88, 89, 90, 91, 92, 93, 94, 95, 96, 97, 98, 99, 100, 101, 102, 103, 104, 105, 106, 107, 108, 109] rfl (by decide +kernel)
set_option maxRecDepth 20000 in
theorem gX9_choosesAct_X9_runs : GoodIn wsX9_choosesAct (wsV RX9 370 RX9 yX9_runs wsX9_runs) := goodIn_app (goodIn_of _ (by decide +kernel)) ggX9_choosesAct_X9_runs
set_option maxRecDepth 20000 in
theorem ggX9_choosesAct_X9_plainChooses : GoodIn wsX9_choosesAct wsX9_plainChooses := goodIn_r _ [12, 2, 3, 4, 5, 6, 7, 8, 13, 14, 15, 16, 1, 17, 18, 19, 20, 21, 22, 23, 24, 25, 26, 27, 28, 29, 30, 31, 32, 33, 34, 35, 36, 37, 38, 39, 40, 41, 42, 43, 44, 45, 46, 47, 48, 49, 50, 51, 52, 53, 54, 55, 56, 57, 58, 59, 60, 61, 62, 63, 64, 65, 66, 67, 68, 69, 70, 71, 72, 73, 74, 75, 76, 77, 78, 79, 80, 81, 82, 83, 84, 85, 86, 87, 88, 89, 90, 91, 92, 93, 94, 95, 96, 97, 98, 99, 100, 101, 102, 103, 104, 105, 106, 107, 108, 109] rfl (by decide +kernel)
set_option maxRecDepth 20000 in
theorem gX9_choosesAct_X9_plainChooses : GoodIn wsX9_choosesAct (wsV RX9 397 RX9 yX9_plainChooses wsX9_plainChooses) := goodIn_app (goodIn_of _ (by decide +kernel)) ggX9_choosesAct_X9_plainChooses
theorem dX9_choosesAct_0 : decode cX9_choosesAct 0 = .ok (.aload_n 0, 1) := by decide +kernel
theorem dX9_choosesAct_1 : decode cX9_choosesAct 1 = .ok (.getfield 190, 3) := by decide +kernel
theorem dX9_choosesAct_4 : decode cX9_choosesAct 4 = .ok (.iload_n 1, 1) := by decide +kernel
theorem dX9_choosesAct_5 : decode cX9_choosesAct 5 = .ok (.iaload, 1) := by decide +kernel
theorem dX9_choosesAct_6 : decode cX9_choosesAct 6 = .ok (.tableswitch 56 4 6 #[26, 41, 26], 26) := by decide +kernel
theorem dX9_choosesAct_32 : decode cX9_choosesAct 32 = .ok (.aload_n 0, 1) := by decide +kernel
theorem dX9_choosesAct_33 : decode cX9_choosesAct 33 = .ok (.bipush 50, 2) := by decide +kernel
theorem dX9_choosesAct_35 : decode cX9_choosesAct 35 = .ok (.invokevirtual 370, 3) := by decide +kernel
theorem dX9_choosesAct_38 : decode cX9_choosesAct 38 = .ok (.aload_n 0, 1) := by decide +kernel
theorem dX9_choosesAct_39 : decode cX9_choosesAct 39 = .ok (.iload_n 1, 1) := by decide +kernel
theorem dX9_choosesAct_40 : decode cX9_choosesAct 40 = .ok (.iload_n 2, 1) := by decide +kernel
theorem dX9_choosesAct_41 : decode cX9_choosesAct 41 = .ok (.invokevirtual 397, 3) := by decide +kernel
theorem dX9_choosesAct_44 : decode cX9_choosesAct 44 = .ok (.iconst 5, 1) := by decide +kernel
theorem dX9_choosesAct_45 : decode cX9_choosesAct 45 = .ok (.ixor, 1) := by decide +kernel
theorem dX9_choosesAct_46 : decode cX9_choosesAct 46 = .ok (.ireturn, 1) := by decide +kernel
theorem dX9_choosesAct_47 : decode cX9_choosesAct 47 = .ok (.aload_n 0, 1) := by decide +kernel
theorem dX9_choosesAct_48 : decode cX9_choosesAct 48 = .ok (.bipush 61, 2) := by decide +kernel
theorem dX9_choosesAct_50 : decode cX9_choosesAct 50 = .ok (.invokevirtual 370, 3) := by decide +kernel
theorem dX9_choosesAct_53 : decode cX9_choosesAct 53 = .ok (.aload_n 0, 1) := by decide +kernel
theorem dX9_choosesAct_54 : decode cX9_choosesAct 54 = .ok (.iload_n 1, 1) := by decide +kernel
theorem dX9_choosesAct_55 : decode cX9_choosesAct 55 = .ok (.iload_n 2, 1) := by decide +kernel
theorem dX9_choosesAct_56 : decode cX9_choosesAct 56 = .ok (.invokevirtual 397, 3) := by decide +kernel
theorem dX9_choosesAct_59 : decode cX9_choosesAct 59 = .ok (.iconst 1, 1) := by decide +kernel
theorem dX9_choosesAct_60 : decode cX9_choosesAct 60 = .ok (.iadd, 1) := by decide +kernel
theorem dX9_choosesAct_61 : decode cX9_choosesAct 61 = .ok (.ireturn, 1) := by decide +kernel
theorem dX9_choosesAct_62 : decode cX9_choosesAct 62 = .ok (.aload_n 0, 1) := by decide +kernel
theorem dX9_choosesAct_63 : decode cX9_choosesAct 63 = .ok (.iload_n 1, 1) := by decide +kernel
theorem dX9_choosesAct_64 : decode cX9_choosesAct 64 = .ok (.iload_n 2, 1) := by decide +kernel
theorem dX9_choosesAct_65 : decode cX9_choosesAct 65 = .ok (.invokevirtual 397, 3) := by decide +kernel
theorem dX9_choosesAct_68 : decode cX9_choosesAct 68 = .ok (.ireturn, 1) := by decide +kernel
set_option maxRecDepth 20000 in
theorem ggX9_act_X9_within : GoodIn wsX9_act wsX9_within := goodIn_r _ [7] rfl (by decide +kernel)
set_option maxRecDepth 20000 in
theorem gX9_act_X9_within : GoodIn wsX9_act (wsV RX9 209 RX9 yX9_within wsX9_within) := goodIn_app (goodIn_of _ (by decide +kernel)) ggX9_act_X9_within
set_option maxRecDepth 20000 in
theorem ggX9_act_X9_standsAct : GoodIn wsX9_act wsX9_standsAct := goodIn_r _ [11, 12, 13, 14, 15, 6, 16, 17, 18, 19, 20, 1, 21, 22, 23, 24, 25, 54, 55, 56, 57, 58, 59, 60, 61, 62, 63, 64, 65, 66, 67, 68, 69, 70, 71, 72, 73, 74, 75, 76, 77, 78, 79, 80, 81, 82, 83, 84, 85, 86, 87, 88, 89, 90, 91, 92, 93, 94, 95, 96, 97, 98, 99, 100, 101, 102, 103, 104, 105, 106, 107, 108, 109, 110, 111, 112, 113, 114, 115, 116, 117, 118] rfl (by decide +kernel)
set_option maxRecDepth 20000 in
theorem gX9_act_X9_standsAct : GoodIn wsX9_act (wsV RX9 382 RX9 yX9_standsAct wsX9_standsAct) := goodIn_app (goodIn_of _ (by decide +kernel)) ggX9_act_X9_standsAct
set_option maxRecDepth 20000 in
theorem ggX9_act_X9_stopsAct : GoodIn wsX9_act wsX9_stopsAct := goodIn_r _ [29, 12, 17, 18, 19, 6, 20, 1, 21, 30, 31, 32, 33, 8, 9, 10, 11, 13, 14, 15, 16, 22, 23, 24, 25, 34, 35, 36, 37, 38, 39, 40, 41, 42, 43, 44, 45, 54, 55, 56, 57, 58, 59, 60, 61, 62, 63, 64, 65, 66, 67, 68, 69, 70, 71, 72, 73, 74, 75, 76, 77, 78, 79, 80, 81, 82, 83, 84, 85, 86, 87, 88, 89, 90, 91, 92, 93, 94, 95, 96, 97, 98, 99, 100, 101, 102, 103, 104, 105, 106, 107, 108, 109, 110, 111, 112, 113, 114, 115, 116, 117, 118] rfl (by decide +kernel)
set_option maxRecDepth 20000 in
theorem gX9_act_X9_stopsAct : GoodIn wsX9_act (wsV RX9 394 RX9 yX9_stopsAct wsX9_stopsAct) := goodIn_app (goodIn_of _ (by decide +kernel)) ggX9_act_X9_stopsAct
set_option maxRecDepth 20000 in
theorem ggX9_act_X9_ridesAct : GoodIn wsX9_act wsX9_ridesAct := goodIn_r _ [41, 12, 17, 18, 19, 6, 20, 1, 21, 42, 43, 44, 45, 8, 9, 10, 11, 13, 14, 15, 16, 22, 23, 24, 25, 54, 55, 56, 57, 58, 59, 60, 61, 62, 63, 64, 65, 66, 67, 68, 69, 70, 71, 72, 73, 74, 75, 76, 77, 78, 79, 80, 81, 82, 83, 84, 85, 86, 87, 88, 89, 90, 91, 92, 93, 94, 95, 96, 97, 98, 99, 100, 101, 102, 103, 104, 105, 106, 107, 108, 109, 110, 111, 112, 113, 114, 115, 116, 117, 118] rfl (by decide +kernel)
set_option maxRecDepth 20000 in
theorem gX9_act_X9_ridesAct : GoodIn wsX9_act (wsV RX9 391 RX9 yX9_ridesAct wsX9_ridesAct) := goodIn_app (goodIn_of _ (by decide +kernel)) ggX9_act_X9_ridesAct
set_option maxRecDepth 20000 in
theorem ggX9_act_X9_choosesAct : GoodIn wsX9_act wsX9_choosesAct := goodIn_r _ [49, 12, 17, 18, 19, 6, 20, 1, 21, 50, 51, 52, 53, 26, 27, 28, 29, 30, 31, 32, 33, 8, 9, 10, 11, 13, 14, 15, 16, 22, 23, 24, 25, 34, 35, 36, 37, 38, 39, 40, 41, 42, 43, 44, 45, 54, 55, 56, 57, 58, 59, 60, 61, 62, 63, 64, 65, 66, 67, 68, 69, 70, 71, 72, 73, 74, 75, 76, 77, 78, 79, 80, 81, 82, 83, 84, 85, 86, 87, 88, 89, 90, 91, 92, 93, 94, 95, 96, 97, 98, 99, 100, 101, 102, 103, 104, 105, 106, 107, 108, 109, 110, 111, 112, 113, 114, 115, 116, 117, 118] rfl (by decide +kernel)
set_option maxRecDepth 20000 in
theorem gX9_act_X9_choosesAct : GoodIn wsX9_act (wsV RX9 400 RX9 yX9_choosesAct wsX9_choosesAct) := goodIn_app (goodIn_of _ (by decide +kernel)) ggX9_act_X9_choosesAct
theorem dX9_act_0 : decode cX9_act 0 = .ok (.aload_n 0, 1) := by decide +kernel
theorem dX9_act_1 : decode cX9_act 1 = .ok (.iconst 0, 1) := by decide +kernel
theorem dX9_act_2 : decode cX9_act 2 = .ok (.putfield 187, 3) := by decide +kernel
theorem dX9_act_5 : decode cX9_act 5 = .ok (.aload_n 0, 1) := by decide +kernel
theorem dX9_act_6 : decode cX9_act 6 = .ok (.iload_n 1, 1) := by decide +kernel
theorem dX9_act_7 : decode cX9_act 7 = .ok (.iconst 0, 1) := by decide +kernel
theorem dX9_act_8 : decode cX9_act 8 = .ok (.aload_n 0, 1) := by decide +kernel
theorem dX9_act_9 : decode cX9_act 9 = .ok (.getfield 184, 3) := by decide +kernel
theorem dX9_act_12 : decode cX9_act 12 = .ok (.iconst 1, 1) := by decide +kernel
theorem dX9_act_13 : decode cX9_act 13 = .ok (.isub, 1) := by decide +kernel
theorem dX9_act_14 : decode cX9_act 14 = .ok (.invokevirtual 209, 3) := by decide +kernel
theorem dX9_act_17 : decode cX9_act 17 = .ok (.ifCond .eq 13, 3) := by decide +kernel
theorem dX9_act_20 : decode cX9_act 20 = .ok (.aload_n 0, 1) := by decide +kernel
theorem dX9_act_21 : decode cX9_act 21 = .ok (.iload_n 2, 1) := by decide +kernel
theorem dX9_act_22 : decode cX9_act 22 = .ok (.iconst 0, 1) := by decide +kernel
theorem dX9_act_23 : decode cX9_act 23 = .ok (.iconst 3, 1) := by decide +kernel
theorem dX9_act_24 : decode cX9_act 24 = .ok (.invokevirtual 209, 3) := by decide +kernel
theorem dX9_act_27 : decode cX9_act 27 = .ok (.ifCond .ne 5, 3) := by decide +kernel
theorem dX9_act_30 : decode cX9_act 30 = .ok (.iconst 0, 1) := by decide +kernel
theorem dX9_act_31 : decode cX9_act 31 = .ok (.ireturn, 1) := by decide +kernel
theorem dX9_act_32 : decode cX9_act 32 = .ok (.iload_n 2, 1) := by decide +kernel
theorem dX9_act_33 : decode cX9_act 33 = .ok (.ifCond .ne 12, 3) := by decide +kernel
theorem dX9_act_36 : decode cX9_act 36 = .ok (.aload_n 0, 1) := by decide +kernel
theorem dX9_act_37 : decode cX9_act 37 = .ok (.iload_n 1, 1) := by decide +kernel
theorem dX9_act_38 : decode cX9_act 38 = .ok (.iload_n 3, 1) := by decide +kernel
theorem dX9_act_39 : decode cX9_act 39 = .ok (.invokevirtual 382, 3) := by decide +kernel
theorem dX9_act_42 : decode cX9_act 42 = .ok (.goto 37, 3) := by decide +kernel
theorem dX9_act_45 : decode cX9_act 45 = .ok (.iload_n 2, 1) := by decide +kernel
theorem dX9_act_46 : decode cX9_act 46 = .ok (.iconst 1, 1) := by decide +kernel
theorem dX9_act_47 : decode cX9_act 47 = .ok (.if_icmp .ne 12, 3) := by decide +kernel
theorem dX9_act_50 : decode cX9_act 50 = .ok (.aload_n 0, 1) := by decide +kernel
theorem dX9_act_51 : decode cX9_act 51 = .ok (.iload_n 1, 1) := by decide +kernel
theorem dX9_act_52 : decode cX9_act 52 = .ok (.iload_n 3, 1) := by decide +kernel
theorem dX9_act_53 : decode cX9_act 53 = .ok (.invokevirtual 394, 3) := by decide +kernel
theorem dX9_act_56 : decode cX9_act 56 = .ok (.goto 23, 3) := by decide +kernel
theorem dX9_act_59 : decode cX9_act 59 = .ok (.iload_n 2, 1) := by decide +kernel
theorem dX9_act_60 : decode cX9_act 60 = .ok (.iconst 2, 1) := by decide +kernel
theorem dX9_act_61 : decode cX9_act 61 = .ok (.if_icmp .ne 12, 3) := by decide +kernel
theorem dX9_act_64 : decode cX9_act 64 = .ok (.aload_n 0, 1) := by decide +kernel
theorem dX9_act_65 : decode cX9_act 65 = .ok (.iload_n 1, 1) := by decide +kernel
theorem dX9_act_66 : decode cX9_act 66 = .ok (.iload_n 3, 1) := by decide +kernel
theorem dX9_act_67 : decode cX9_act 67 = .ok (.invokevirtual 391, 3) := by decide +kernel
theorem dX9_act_70 : decode cX9_act 70 = .ok (.goto 9, 3) := by decide +kernel
theorem dX9_act_73 : decode cX9_act 73 = .ok (.aload_n 0, 1) := by decide +kernel
theorem dX9_act_74 : decode cX9_act 74 = .ok (.iload_n 1, 1) := by decide +kernel
theorem dX9_act_75 : decode cX9_act 75 = .ok (.iload_n 3, 1) := by decide +kernel
theorem dX9_act_76 : decode cX9_act 76 = .ok (.invokevirtual 400, 3) := by decide +kernel
theorem dX9_act_79 : decode cX9_act 79 = .ok (.ireturn, 1) := by decide +kernel
