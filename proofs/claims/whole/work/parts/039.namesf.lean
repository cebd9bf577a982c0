set_option maxRecDepth 20000 in
theorem ggX9_in_X9_isRoad : GoodIn wsX9_in wsX9_isRoad := goodIn_r _ [10, 11, 12, 13, 14, 9, 15, 108, 109, 110, 111, 112, 113, 114, 115, 116, 117, 118, 119, 120, 121, 122, 123, 124, 125, 126, 127, 128, 129, 130, 131, 132, 133, 134, 135, 136, 137, 138, 139, 140, 141, 142, 143, 144, 145, 146, 147, 148, 149, 150, 151, 152, 153, 154, 155, 156, 157, 158, 159, 160, 161, 162, 163, 164, 165, 166, 167, 168, 169, 170, 171, 172] rfl (by decide +kernel)
set_option maxRecDepth 20000 in
theorem gX9_in_X9_isRoad : GoodIn wsX9_in (wsV RX9 237 RX9 yX9_isRoad wsX9_isRoad) := goodIn_app (goodIn_of _ (by decide +kernel)) ggX9_in_X9_isRoad
set_option maxRecDepth 20000 in
theorem ggX9_in_X9_within : GoodIn wsX9_in wsX9_within := goodIn_r _ [15] rfl (by decide +kernel)
set_option maxRecDepth 20000 in
theorem gX9_in_X9_within : GoodIn wsX9_in (wsV RX9 209 RX9 yX9_within wsX9_within) := goodIn_app (goodIn_of _ (by decide +kernel)) ggX9_in_X9_within
set_option maxRecDepth 20000 in
theorem ggX9_in_X9_asIs : GoodIn wsX9_in wsX9_asIs := goodIn_r _ [19, 20, 21, 22, 23, 24, 25, 26, 27, 108, 109, 110, 111, 112, 113, 114, 115, 116, 117, 118, 119, 120, 121, 122, 123, 124, 125, 126, 127, 128, 129, 130, 131, 132, 133, 134, 135, 136, 137, 138, 139, 140, 141, 142, 143, 144, 145, 146, 147, 148, 149, 150, 151, 152, 153, 154, 155, 156, 157, 158, 159, 160, 161, 162, 163, 164, 165, 166, 167, 168, 169, 170, 171, 172] rfl (by decide +kernel)
set_option maxRecDepth 20000 in
theorem gX9_in_X9_asIs : GoodIn wsX9_in (wsV RX9 316 RX9 yX9_asIs wsX9_asIs) := goodIn_app (goodIn_of _ (by decide +kernel)) ggX9_in_X9_asIs
set_option maxRecDepth 20000 in
theorem ggX9_in_X9_isStop : GoodIn wsX9_in wsX9_isStop := goodIn_r _ [31, 21, 32, 23, 33, 34, 35, 36, 9, 37, 1, 38, 39, 40, 41, 5, 42, 43, 3, 27, 44, 45, 46, 47, 48, 49, 50, 51, 52, 53, 54, 55, 56, 57, 58, 59, 60, 61, 62, 63, 64, 65, 66, 67, 68, 25, 108, 109, 110, 111, 112, 113, 114, 115, 116, 117, 118, 119, 120, 121, 122, 123, 124, 125, 126, 127, 128, 129, 130, 131, 132, 133, 134, 135, 136, 137, 138, 139, 140, 141, 142, 143, 144, 145, 146, 147, 148, 149, 150, 151, 152, 153, 154, 155, 156, 157, 158, 159, 160, 161, 162, 163, 164, 165, 166, 167, 168, 169, 170, 171, 172] rfl (by decide +kernel)
set_option maxRecDepth 20000 in
theorem gX9_in_X9_isStop : GoodIn wsX9_in (wsV RX9 313 RX9 yX9_isStop wsX9_isStop) := goodIn_app (goodIn_of _ (by decide +kernel)) ggX9_in_X9_isStop
set_option maxRecDepth 20000 in
theorem ggX9_in_X9_layStops : GoodIn wsX9_in wsX9_layStops := goodIn_r _ [72, 11, 1, 73, 28, 29, 30, 9, 31, 21, 32, 23, 33, 34, 35, 36, 37, 38, 39, 40, 41, 5, 42, 43, 3, 27, 44, 45, 46, 47, 48, 49, 50, 51, 52, 53, 54, 55, 56, 57, 58, 59, 60, 61, 62, 63, 64, 65, 66, 67, 68, 25, 108, 109, 110, 111, 112, 113, 114, 115, 116, 117, 118, 119, 120, 121, 122, 123, 124, 125, 126, 127, 128, 129, 130, 131, 132, 133, 134, 135, 136, 137, 138, 139, 140, 141, 142, 143, 144, 145, 146, 147, 148, 149, 150, 151, 152, 153, 154, 155, 156, 157, 158, 159, 160, 161, 162, 163, 164, 165, 166, 167, 168, 169, 170, 171, 172] rfl (by decide +kernel)
set_option maxRecDepth 20000 in
theorem gX9_in_X9_layStops : GoodIn wsX9_in (wsV RX9 335 RX9 yX9_layStops wsX9_layStops) := goodIn_app (goodIn_of _ (by decide +kernel)) ggX9_in_X9_layStops
set_option maxRecDepth 20000 in
theorem ggX9_in_X9_layAway : GoodIn wsX9_in wsX9_layAway := goodIn_r _ [77, 78, 11, 3, 4, 5, 79, 80, 81, 9, 82, 83, 12, 13, 14, 15, 108, 109, 110, 111, 112, 113, 114, 115, 116, 117, 118, 119, 120, 121, 122, 123, 124, 125, 126, 127, 128, 129, 130, 131, 132, 133, 134, 135, 136, 137, 138, 139, 140, 141, 142, 143, 144, 145, 146, 147, 148, 149, 150, 151, 152, 153, 154, 155, 156, 157, 158, 159, 160, 161, 162, 163, 164, 165, 166, 167, 168, 169, 170, 171, 172] rfl (by decide +kernel)
set_option maxRecDepth 20000 in
theorem gX9_in_X9_layAway : GoodIn wsX9_in (wsV RX9 319 RX9 yX9_layAway wsX9_layAway) := goodIn_app (goodIn_of _ (by decide +kernel)) ggX9_in_X9_layAway
set_option maxRecDepth 20000 in
theorem ggX9_in_X9_minuteOf : GoodIn wsX9_in wsX9_minuteOf := goodIn_r _ [37, 1, 108, 109, 110, 111, 112, 113, 114, 115, 116, 117, 118, 119, 120, 121, 122, 123, 124, 125, 126, 127, 128, 129, 130, 131, 132, 133, 134, 135, 136, 137, 138, 139, 140, 141, 142, 143, 144, 145, 146, 147, 148, 149, 150, 151, 152, 153, 154, 155, 156, 157, 158, 159, 160, 161, 162, 163, 164, 165, 166, 167, 168, 169, 170, 171, 172] rfl (by decide +kernel)
set_option maxRecDepth 20000 in
theorem gX9_in_X9_minuteOf : GoodIn wsX9_in (wsV RX9 301 RX9 yX9_minuteOf wsX9_minuteOf) := goodIn_app (goodIn_of _ (by decide +kernel)) ggX9_in_X9_minuteOf
set_option maxRecDepth 20000 in
theorem ggX9_in_X9_arrives : GoodIn wsX9_in wsX9_arrives := goodIn_r _ [87, 88, 2, 89, 3, 90, 4, 91, 92, 93, 9, 94, 11, 44, 95, 96, 97, 98, 5, 73, 99, 100, 101, 102, 1, 34, 35, 36, 37, 103, 104, 105, 106, 107, 78, 32, 38, 39, 40, 41, 42, 43, 23, 33, 27, 45, 46, 47, 48, 49, 50, 51, 52, 53, 54, 55, 56, 57, 58, 59, 60, 61, 62, 63, 108, 109, 110, 111, 112, 113, 114, 115, 116, 117, 118, 119, 120, 121, 122, 123, 124, 125, 126, 127, 128, 129, 130, 131, 132, 133, 134, 135, 136, 137, 138, 139, 140, 141, 142, 143, 144, 145, 146, 147, 148, 149, 150, 151, 152, 153, 154, 155, 156, 157, 158, 159, 160, 161, 162, 163, 164, 165, 166, 167, 168, 169, 170, 171, 172] rfl (by decide +kernel)
set_option maxRecDepth 20000 in
theorem gX9_in_X9_arrives : GoodIn wsX9_in (wsV RX9 350 RX9 yX9_arrives wsX9_arrives) := goodIn_app (goodIn_of _ (by decide +kernel)) ggX9_in_X9_arrives
theorem dX9_in_0 : decode cX9_in 0 = .ok (.aload_n 0, 1) := by decide +kernel
theorem dX9_in_1 : decode cX9_in 1 = .ok (.iload_n 1, 1) := by decide +kernel
theorem dX9_in_2 : decode cX9_in 2 = .ok (.invokevirtual 237, 3) := by decide +kernel
theorem dX9_in_5 : decode cX9_in 5 = .ok (.ifCond .eq 23, 3) := by decide +kernel
theorem dX9_in_8 : decode cX9_in 8 = .ok (.aload_n 0, 1) := by decide +kernel
theorem dX9_in_9 : decode cX9_in 9 = .ok (.iload_n 2, 1) := by decide +kernel
theorem dX9_in_10 : decode cX9_in 10 = .ok (.iconst 0, 1) := by decide +kernel
theorem dX9_in_11 : decode cX9_in 11 = .ok (.bipush 24, 2) := by decide +kernel
theorem dX9_in_13 : decode cX9_in 13 = .ok (.aload_n 0, 1) := by decide +kernel
theorem dX9_in_14 : decode cX9_in 14 = .ok (.getfield 29, 3) := by decide +kernel
theorem dX9_in_17 : decode cX9_in 17 = .ok (.iload_n 1, 1) := by decide +kernel
theorem dX9_in_18 : decode cX9_in 18 = .ok (.iaload, 1) := by decide +kernel
theorem dX9_in_19 : decode cX9_in 19 = .ok (.imul, 1) := by decide +kernel
theorem dX9_in_20 : decode cX9_in 20 = .ok (.iconst 1, 1) := by decide +kernel
theorem dX9_in_21 : decode cX9_in 21 = .ok (.isub, 1) := by decide +kernel
theorem dX9_in_22 : decode cX9_in 22 = .ok (.invokevirtual 209, 3) := by decide +kernel
theorem dX9_in_25 : decode cX9_in 25 = .ok (.ifCond .ne 5, 3) := by decide +kernel
theorem dX9_in_28 : decode cX9_in 28 = .ok (.iconst (-1), 1) := by decide +kernel
theorem dX9_in_29 : decode cX9_in 29 = .ok (.ireturn, 1) := by decide +kernel
theorem dX9_in_30 : decode cX9_in 30 = .ok (.aload_n 0, 1) := by decide +kernel
theorem dX9_in_31 : decode cX9_in 31 = .ok (.invokevirtual 316, 3) := by decide +kernel
theorem dX9_in_34 : decode cX9_in 34 = .ok (.aload_n 0, 1) := by decide +kernel
theorem dX9_in_35 : decode cX9_in 35 = .ok (.iload_n 1, 1) := by decide +kernel
theorem dX9_in_36 : decode cX9_in 36 = .ok (.iload_n 2, 1) := by decide +kernel
theorem dX9_in_37 : decode cX9_in 37 = .ok (.invokevirtual 313, 3) := by decide +kernel
theorem dX9_in_40 : decode cX9_in 40 = .ok (.ifCond .ne 6, 3) := by decide +kernel
theorem dX9_in_43 : decode cX9_in 43 = .ok (.bipush (-5), 2) := by decide +kernel
theorem dX9_in_45 : decode cX9_in 45 = .ok (.ireturn, 1) := by decide +kernel
theorem dX9_in_46 : decode cX9_in 46 = .ok (.aload_n 0, 1) := by decide +kernel
theorem dX9_in_47 : decode cX9_in 47 = .ok (.invokevirtual 335, 3) := by decide +kernel
theorem dX9_in_50 : decode cX9_in 50 = .ok (.aload_n 0, 1) := by decide +kernel
theorem dX9_in_51 : decode cX9_in 51 = .ok (.aload_n 0, 1) := by decide +kernel
theorem dX9_in_52 : decode cX9_in 52 = .ok (.getfield 41, 3) := by decide +kernel
theorem dX9_in_55 : decode cX9_in 55 = .ok (.invokevirtual 319, 3) := by decide +kernel
theorem dX9_in_58 : decode cX9_in 58 = .ok (.aload_n 0, 1) := by decide +kernel
theorem dX9_in_59 : decode cX9_in 59 = .ok (.iload_n 1, 1) := by decide +kernel
theorem dX9_in_60 : decode cX9_in 60 = .ok (.iload_n 2, 1) := by decide +kernel
theorem dX9_in_61 : decode cX9_in 61 = .ok (.invokevirtual 301, 3) := by decide +kernel
theorem dX9_in_64 : decode cX9_in 64 = .ok (.istore_n 3, 1) := by decide +kernel
theorem dX9_in_65 : decode cX9_in 65 = .ok (.aload_n 0, 1) := by decide +kernel
theorem dX9_in_66 : decode cX9_in 66 = .ok (.aload_n 0, 1) := by decide +kernel
theorem dX9_in_67 : decode cX9_in 67 = .ok (.getfield 26, 3) := by decide +kernel
theorem dX9_in_70 : decode cX9_in 70 = .ok (.iload_n 1, 1) := by decide +kernel
theorem dX9_in_71 : decode cX9_in 71 = .ok (.iaload, 1) := by decide +kernel
theorem dX9_in_72 : decode cX9_in 72 = .ok (.iload_n 3, 1) := by decide +kernel
theorem dX9_in_73 : decode cX9_in 73 = .ok (.aload_n 0, 1) := by decide +kernel
theorem dX9_in_74 : decode cX9_in 74 = .ok (.getfield 32, 3) := by decide +kernel
theorem dX9_in_77 : decode cX9_in 77 = .ok (.iload_n 1, 1) := by decide +kernel
theorem dX9_in_78 : decode cX9_in 78 = .ok (.iaload, 1) := by decide +kernel
theorem dX9_in_79 : decode cX9_in 79 = .ok (.iadd, 1) := by decide +kernel
theorem dX9_in_80 : decode cX9_in 80 = .ok (.bipush 99, 2) := by decide +kernel
theorem dX9_in_82 : decode cX9_in 82 = .ok (.invokevirtual 350, 3) := by decide +kernel
theorem dX9_in_85 : decode cX9_in 85 = .ok (.istore 4, 2) := by decide +kernel
theorem dX9_in_87 : decode cX9_in 87 = .ok (.aload_n 0, 1) := by decide +kernel
theorem dX9_in_88 : decode cX9_in 88 = .ok (.aload_n 0, 1) := by decide +kernel
theorem dX9_in_89 : decode cX9_in 89 = .ok (.getfield 23, 3) := by decide +kernel
theorem dX9_in_92 : decode cX9_in 92 = .ok (.iload_n 1, 1) := by decide +kernel
theorem dX9_in_93 : decode cX9_in 93 = .ok (.iaload, 1) := by decide +kernel
theorem dX9_in_94 : decode cX9_in 94 = .ok (.iload_n 3, 1) := by decide +kernel
theorem dX9_in_95 : decode cX9_in 95 = .ok (.iconst 1, 1) := by decide +kernel
theorem dX9_in_96 : decode cX9_in 96 = .ok (.iadd, 1) := by decide +kernel
theorem dX9_in_97 : decode cX9_in 97 = .ok (.bipush 99, 2) := by decide +kernel
theorem dX9_in_99 : decode cX9_in 99 = .ok (.invokevirtual 350, 3) := by decide +kernel
theorem dX9_in_102 : decode cX9_in 102 = .ok (.istore 5, 2) := by decide +kernel
theorem dX9_in_104 : decode cX9_in 104 = .ok (.iload 4, 2) := by decide +kernel
theorem dX9_in_106 : decode cX9_in 106 = .ok (.ifCond .lt 19, 3) := by decide +kernel
theorem dX9_in_109 : decode cX9_in 109 = .ok (.iload 5, 2) := by decide +kernel
theorem dX9_in_111 : decode cX9_in 111 = .ok (.ifCond .lt 10, 3) := by decide +kernel
theorem dX9_in_114 : decode cX9_in 114 = .ok (.iload 4, 2) := by decide +kernel
theorem dX9_in_116 : decode cX9_in 116 = .ok (.iload 5, 2) := by decide +kernel
theorem dX9_in_118 : decode cX9_in 118 = .ok (.if_icmp .gt 7, 3) := by decide +kernel
theorem dX9_in_121 : decode cX9_in 121 = .ok (.iconst 1, 1) := by decide +kernel
theorem dX9_in_122 : decode cX9_in 122 = .ok (.goto 4, 3) := by decide +kernel
theorem dX9_in_125 : decode cX9_in 125 = .ok (.iconst 0, 1) := by decide +kernel
theorem dX9_in_126 : decode cX9_in 126 = .ok (.ireturn, 1) := by decide +kernel
set_option maxRecDepth 20000 in
theorem ggX9_walks_X9_isTime : GoodIn wsX9_walks wsX9_isTime := goodIn_r _ [8, 9, 10, 11, 7, 12, 2, 13, 14, 15, 16, 17, 18, 19, 20, 113, 114, 115, 116, 117, 118, 119, 120, 121, 122, 123, 124, 125, 126, 127, 128, 129, 130, 131, 132, 133, 134, 135, 136, 137, 138, 139, 140, 141, 142, 143, 144, 145, 146, 147, 148, 149, 150, 151, 152, 153, 154, 155, 156, 157, 158, 159, 160, 161, 162, 163, 164, 165, 166, 167, 168, 169, 170, 171, 172, 173, 174, 175, 176, 177] rfl (by decide +kernel)
set_option maxRecDepth 20000 in
theorem gX9_walks_X9_isTime : GoodIn wsX9_walks (wsV RX9 347 RX9 yX9_isTime wsX9_isTime) := goodIn_app (goodIn_of _ (by decide +kernel)) ggX9_walks_X9_isTime
set_option maxRecDepth 20000 in
theorem ggX9_walks_X9_within : GoodIn wsX9_walks wsX9_within := goodIn_r _ [16] rfl (by decide +kernel)
set_option maxRecDepth 20000 in
theorem gX9_walks_X9_within : GoodIn wsX9_walks (wsV RX9 209 RX9 yX9_within wsX9_within) := goodIn_app (goodIn_of _ (by decide +kernel)) ggX9_walks_X9_within
set_option maxRecDepth 20000 in
theorem ggX9_walks_X9_asIs : GoodIn wsX9_walks wsX9_asIs := goodIn_r _ [24, 25, 26, 27, 28, 29, 30, 31, 32, 113, 114, 115, 116, 117, 118, 119, 120, 121, 122, 123, 124, 125, 126, 127, 128, 129, 130, 131, 132, 133, 134, 135, 136, 137, 138, 139, 140, 141, 142, 143, 144, 145, 146, 147, 148, 149, 150, 151, 152, 153, 154, 155, 156, 157, 158, 159, 160, 161, 162, 163, 164, 165, 166, 167, 168, 169, 170, 171, 172, 173, 174, 175, 176, 177] rfl (by decide +kernel)
set_option maxRecDepth 20000 in
theorem gX9_walks_X9_asIs : GoodIn wsX9_walks (wsV RX9 316 RX9 yX9_asIs wsX9_asIs) := goodIn_app (goodIn_of _ (by decide +kernel)) ggX9_walks_X9_asIs
set_option maxRecDepth 20000 in
theorem ggX9_walks_X9_layStops : GoodIn wsX9_walks wsX9_layStops := goodIn_r _ [36, 37, 38, 39, 40, 41, 42, 7, 43, 26, 44, 28, 45, 46, 47, 48, 49, 50, 51, 52, 53, 54, 55, 56, 57, 32, 58, 59, 60, 61, 62, 63, 64, 65, 66, 67, 68, 69, 70, 71, 72, 73, 74, 75, 76, 77, 78, 79, 80, 81, 82, 30, 113, 114, 115, 116, 117, 118, 119, 120, 121, 122, 123, 124, 125, 126, 127, 128, 129, 130, 131, 132, 133, 134, 135, 136, 137, 138, 139, 140, 141, 142, 143, 144, 145, 146, 147, 148, 149, 150, 151, 152, 153, 154, 155, 156, 157, 158, 159, 160, 161, 162, 163, 164, 165, 166, 167, 168, 169, 170, 171, 172, 173, 174, 175, 176, 177] rfl (by decide +kernel)
set_option maxRecDepth 20000 in
theorem gX9_walks_X9_layStops : GoodIn wsX9_walks (wsV RX9 335 RX9 yX9_layStops wsX9_layStops) := goodIn_app (goodIn_of _ (by decide +kernel)) ggX9_walks_X9_layStops
set_option maxRecDepth 20000 in
theorem ggX9_walks_X9_layAway : GoodIn wsX9_walks wsX9_layAway := goodIn_r _ [86, 87, 37, 57, 88, 54, 9, 10, 11, 7, 12, 2, 13, 14, 15, 16, 113, 114, 115, 116, 117, 118, 119, 120, 121, 122, 123, 124, 125, 126, 127, 128, 129, 130, 131, 132, 133, 134, 135, 136, 137, 138, 139, 140, 141, 142, 143, 144, 145, 146, 147, 148, 149, 150, 151, 152, 153, 154, 155, 156, 157, 158, 159, 160, 161, 162, 163, 164, 165, 166, 167, 168, 169, 170, 171, 172, 173, 174, 175, 176, 177] rfl (by decide +kernel)
set_option maxRecDepth 20000 in
theorem gX9_walks_X9_layAway : GoodIn wsX9_walks (wsV RX9 319 RX9 yX9_layAway wsX9_layAway) := goodIn_app (goodIn_of _ (by decide +kernel)) ggX9_walks_X9_layAway
set_option maxRecDepth 20000 in
theorem ggX9_walks_X9_arrives : GoodIn wsX9_walks wsX9_arrives := goodIn_r _ [92, 93, 1, 94, 57, 95, 88, 96, 97, 98, 7, 99, 37, 58, 100, 101, 102, 103, 54, 39, 104, 105, 106, 107, 38, 46, 47, 48, 49, 108, 109, 110, 111, 112, 87, 44, 50, 51, 52, 53, 55, 56, 28, 45, 32, 59, 60, 61, 62, 63, 64, 65, 66, 67, 68, 69, 70, 71, 72, 73, 74, 75, 76, 77, 113, 114, 115, 116, 117, 118, 119, 120, 121, 122, 123, 124, 125, 126, 127, 128, 129, 130, 131, 132, 133, 134, 135, 136, 137, 138, 139, 140, 141, 142, 143, 144, 145, 146, 147, 148, 149, 150, 151, 152, 153, 154, 155, 156, 157, 158, 159, 160, 161, 162, 163, 164, 165, 166, 167, 168, 169, 170, 171, 172, 173, 174, 175, 176, 177] rfl (by decide +kernel)
set_option maxRecDepth 20000 in
theorem gX9_walks_X9_arrives : GoodIn wsX9_walks (wsV RX9 350 RX9 yX9_arrives wsX9_arrives) := goodIn_app (goodIn_of _ (by decide +kernel)) ggX9_walks_X9_arrives
theorem dX9_walks_0 : decode cX9_walks 0 = .ok (.aload_n 0, 1) := by decide +kernel
theorem dX9_walks_1 : decode cX9_walks 1 = .ok (.iload_n 1, 1) := by decide +kernel
theorem dX9_walks_2 : decode cX9_walks 2 = .ok (.invokevirtual 347, 3) := by decide +kernel
theorem dX9_walks_5 : decode cX9_walks 5 = .ok (.ifCond .eq 13, 3) := by decide +kernel
theorem dX9_walks_8 : decode cX9_walks 8 = .ok (.aload_n 0, 1) := by decide +kernel
theorem dX9_walks_9 : decode cX9_walks 9 = .ok (.iload_n 2, 1) := by decide +kernel
theorem dX9_walks_10 : decode cX9_walks 10 = .ok (.iconst 0, 1) := by decide +kernel
theorem dX9_walks_11 : decode cX9_walks 11 = .ok (.iconst 1, 1) := by decide +kernel
theorem dX9_walks_12 : decode cX9_walks 12 = .ok (.invokevirtual 209, 3) := by decide +kernel
theorem dX9_walks_15 : decode cX9_walks 15 = .ok (.ifCond .ne 5, 3) := by decide +kernel
theorem dX9_walks_18 : decode cX9_walks 18 = .ok (.iconst (-1), 1) := by decide +kernel
theorem dX9_walks_19 : decode cX9_walks 19 = .ok (.ireturn, 1) := by decide +kernel
theorem dX9_walks_20 : decode cX9_walks 20 = .ok (.aload_n 0, 1) := by decide +kernel
theorem dX9_walks_21 : decode cX9_walks 21 = .ok (.invokevirtual 316, 3) := by decide +kernel
theorem dX9_walks_24 : decode cX9_walks 24 = .ok (.aload_n 0, 1) := by decide +kernel
theorem dX9_walks_25 : decode cX9_walks 25 = .ok (.invokevirtual 335, 3) := by decide +kernel
theorem dX9_walks_28 : decode cX9_walks 28 = .ok (.aload_n 0, 1) := by decide +kernel
theorem dX9_walks_29 : decode cX9_walks 29 = .ok (.aload_n 0, 1) := by decide +kernel
theorem dX9_walks_30 : decode cX9_walks 30 = .ok (.getfield 41, 3) := by decide +kernel
theorem dX9_walks_33 : decode cX9_walks 33 = .ok (.invokevirtual 319, 3) := by decide +kernel
theorem dX9_walks_36 : decode cX9_walks 36 = .ok (.iload_n 1, 1) := by decide +kernel
theorem dX9_walks_37 : decode cX9_walks 37 = .ok (.sipush 10000, 3) := by decide +kernel
theorem dX9_walks_40 : decode cX9_walks 40 = .ok (.idiv, 1) := by decide +kernel
theorem dX9_walks_41 : decode cX9_walks 41 = .ok (.istore_n 3, 1) := by decide +kernel
theorem dX9_walks_42 : decode cX9_walks 42 = .ok (.bipush (-2), 2) := by decide +kernel
theorem dX9_walks_44 : decode cX9_walks 44 = .ok (.istore 4, 2) := by decide +kernel
theorem dX9_walks_46 : decode cX9_walks 46 = .ok (.bipush (-2), 2) := by decide +kernel
theorem dX9_walks_48 : decode cX9_walks 48 = .ok (.istore 5, 2) := by decide +kernel
theorem dX9_walks_50 : decode cX9_walks 50 = .ok (.iconst 0, 1) := by decide +kernel
theorem dX9_walks_51 : decode cX9_walks 51 = .ok (.istore 6, 2) := by decide +kernel
theorem dX9_walks_53 : decode cX9_walks 53 = .ok (.iload 6, 2) := by decide +kernel
theorem dX9_walks_55 : decode cX9_walks 55 = .ok (.aload_n 0, 1) := by decide +kernel
theorem dX9_walks_56 : decode cX9_walks 56 = .ok (.getfield 7, 3) := by decide +kernel
theorem dX9_walks_59 : decode cX9_walks 59 = .ok (.if_icmp .ge 93, 3) := by decide +kernel
theorem dX9_walks_62 : decode cX9_walks 62 = .ok (.aload_n 0, 1) := by decide +kernel
theorem dX9_walks_63 : decode cX9_walks 63 = .ok (.getfield 38, 3) := by decide +kernel
theorem dX9_walks_66 : decode cX9_walks 66 = .ok (.bipush 8, 2) := by decide +kernel
theorem dX9_walks_68 : decode cX9_walks 68 = .ok (.iload_n 3, 1) := by decide +kernel
theorem dX9_walks_69 : decode cX9_walks 69 = .ok (.imul, 1) := by decide +kernel
theorem dX9_walks_70 : decode cX9_walks 70 = .ok (.iload 6, 2) := by decide +kernel
theorem dX9_walks_72 : decode cX9_walks 72 = .ok (.iadd, 1) := by decide +kernel
theorem dX9_walks_73 : decode cX9_walks 73 = .ok (.iaload, 1) := by decide +kernel
theorem dX9_walks_74 : decode cX9_walks 74 = .ok (.istore 7, 2) := by decide +kernel
theorem dX9_walks_76 : decode cX9_walks 76 = .ok (.iload 6, 2) := by decide +kernel
theorem dX9_walks_78 : decode cX9_walks 78 = .ok (.iload_n 3, 1) := by decide +kernel
theorem dX9_walks_79 : decode cX9_walks 79 = .ok (.if_icmp .eq 11, 3) := by decide +kernel
theorem dX9_walks_82 : decode cX9_walks 82 = .ok (.iload 7, 2) := by decide +kernel
theorem dX9_walks_84 : decode cX9_walks 84 = .ok (.ifCond .ne 6, 3) := by decide +kernel
theorem dX9_walks_87 : decode cX9_walks 87 = .ok (.goto 59, 3) := by decide +kernel
theorem dX9_walks_90 : decode cX9_walks 90 = .ok (.aload_n 0, 1) := by decide +kernel
theorem dX9_walks_91 : decode cX9_walks 91 = .ok (.iload 6, 2) := by decide +kernel
theorem dX9_walks_93 : decode cX9_walks 93 = .ok (.iload_n 1, 1) := by decide +kernel
theorem dX9_walks_94 : decode cX9_walks 94 = .ok (.sipush 10000, 3) := by decide +kernel
theorem dX9_walks_97 : decode cX9_walks 97 = .ok (.irem, 1) := by decide +kernel
theorem dX9_walks_98 : decode cX9_walks 98 = .ok (.iload 6, 2) := by decide +kernel
theorem dX9_walks_100 : decode cX9_walks 100 = .ok (.iload_n 3, 1) := by decide +kernel
theorem dX9_walks_101 : decode cX9_walks 101 = .ok (.if_icmp .ne 7, 3) := by decide +kernel
theorem dX9_walks_104 : decode cX9_walks 104 = .ok (.iconst 0, 1) := by decide +kernel
theorem dX9_walks_105 : decode cX9_walks 105 = .ok (.goto 5, 3) := by decide +kernel
theorem dX9_walks_108 : decode cX9_walks 108 = .ok (.iload 7, 2) := by decide +kernel
theorem dX9_walks_110 : decode cX9_walks 110 = .ok (.iadd, 1) := by decide +kernel
theorem dX9_walks_111 : decode cX9_walks 111 = .ok (.bipush 99, 2) := by decide +kernel
theorem dX9_walks_113 : decode cX9_walks 113 = .ok (.invokevirtual 350, 3) := by decide +kernel
theorem dX9_walks_116 : decode cX9_walks 116 = .ok (.istore 8, 2) := by decide +kernel
theorem dX9_walks_118 : decode cX9_walks 118 = .ok (.iload 8, 2) := by decide +kernel
theorem dX9_walks_120 : decode cX9_walks 120 = .ok (.ifCond .lt 26, 3) := by decide +kernel
theorem dX9_walks_123 : decode cX9_walks 123 = .ok (.iload 5, 2) := by decide +kernel
theorem dX9_walks_125 : decode cX9_walks 125 = .ok (.ifCond .lt 13, 3) := by decide +kernel
theorem dX9_walks_128 : decode cX9_walks 128 = .ok (.iload 8, 2) := by decide +kernel
theorem dX9_walks_130 : decode cX9_walks 130 = .ok (.iload 5, 2) := by decide +kernel
theorem dX9_walks_132 : decode cX9_walks 132 = .ok (.if_icmp .lt 6, 3) := by decide +kernel
theorem dX9_walks_135 : decode cX9_walks 135 = .ok (.goto 11, 3) := by decide +kernel
theorem dX9_walks_138 : decode cX9_walks 138 = .ok (.iload 6, 2) := by decide +kernel
theorem dX9_walks_140 : decode cX9_walks 140 = .ok (.istore 4, 2) := by decide +kernel
theorem dX9_walks_142 : decode cX9_walks 142 = .ok (.iload 8, 2) := by decide +kernel
theorem dX9_walks_144 : decode cX9_walks 144 = .ok (.istore 5, 2) := by decide +kernel
theorem dX9_walks_146 : decode cX9_walks 146 = .ok (.iinc 6 1, 3) := by decide +kernel
theorem dX9_walks_149 : decode cX9_walks 149 = .ok (.goto (-96), 3) := by decide +kernel
theorem dX9_walks_152 : decode cX9_walks 152 = .ok (.iload_n 2, 1) := by decide +kernel
theorem dX9_walks_153 : decode cX9_walks 153 = .ok (.ifCond .ne 8, 3) := by decide +kernel
theorem dX9_walks_156 : decode cX9_walks 156 = .ok (.iload 4, 2) := by decide +kernel
theorem dX9_walks_158 : decode cX9_walks 158 = .ok (.goto 5, 3) := by decide +kernel
theorem dX9_walks_161 : decode cX9_walks 161 = .ok (.iload 5, 2) := by decide +kernel
theorem dX9_walks_163 : decode cX9_walks 163 = .ok (.ireturn, 1) := by decide +kernel
set_option maxRecDepth 20000 in
theorem ggX9_begin_X9_isPlace : GoodIn wsX9_begin wsX9_isPlace := goodIn_r _ [6, 7, 8, 9, 10, 5, 11, 104, 105, 106, 107, 108, 109, 110, 111, 112, 113, 114, 115, 116, 117, 118, 119, 120, 121, 122, 123, 124, 125, 126, 127, 128, 129, 130, 131, 132, 133, 134, 135, 136, 137, 138, 139, 140, 141, 142, 143, 144, 145, 146, 147, 148, 149, 150, 151, 152, 153, 154, 155, 156, 157, 158, 159, 160, 161, 162, 163, 164, 165, 166, 167, 168] rfl (by decide +kernel)
set_option maxRecDepth 20000 in
theorem gX9_begin_X9_isPlace : GoodIn wsX9_begin (wsV RX9 213 RX9 yX9_isPlace wsX9_isPlace) := goodIn_app (goodIn_of _ (by decide +kernel)) ggX9_begin_X9_isPlace
set_option maxRecDepth 20000 in
theorem ggX9_begin_X9_within : GoodIn wsX9_begin wsX9_within := goodIn_r _ [11] rfl (by decide +kernel)
set_option maxRecDepth 20000 in
theorem gX9_begin_X9_within : GoodIn wsX9_begin (wsV RX9 209 RX9 yX9_within wsX9_within) := goodIn_app (goodIn_of _ (by decide +kernel)) ggX9_begin_X9_within
set_option maxRecDepth 20000 in
theorem ggX9_begin_X9_asIs : GoodIn wsX9_begin wsX9_asIs := goodIn_r _ [15, 16, 17, 18, 19, 20, 21, 22, 23, 104, 105, 106, 107, 108, 109, 110, 111, 112, 113, 114, 115, 116, 117, 118, 119, 120, 121, 122, 123, 124, 125, 126, 127, 128, 129, 130, 131, 132, 133, 134, 135, 136, 137, 138, 139, 140, 141, 142, 143, 144, 145, 146, 147, 148, 149, 150, 151, 152, 153, 154, 155, 156, 157, 158, 159, 160, 161, 162, 163, 164, 165, 166, 167, 168] rfl (by decide +kernel)
set_option maxRecDepth 20000 in
theorem gX9_begin_X9_asIs : GoodIn wsX9_begin (wsV RX9 316 RX9 yX9_asIs wsX9_asIs) := goodIn_app (goodIn_of _ (by decide +kernel)) ggX9_begin_X9_asIs
set_option maxRecDepth 20000 in
theorem ggX9_begin_X9_layStops : GoodIn wsX9_begin wsX9_layStops := goodIn_r _ [27, 28, 29, 30, 31, 32, 33, 5, 34, 17, 35, 19, 36, 37, 38, 39, 40, 41, 42, 43, 44, 45, 46, 47, 48, 23, 49, 50, 51, 52, 53, 54, 55, 56, 57, 58, 59, 60, 61, 62, 63, 64, 65, 66, 67, 68, 69, 70, 71, 72, 73, 21, 104, 105, 106, 107, 108, 109, 110, 111, 112, 113, 114, 115, 116, 117, 118, 119, 120, 121, 122, 123, 124, 125, 126, 127, 128, 129, 130, 131, 132, 133, 134, 135, 136, 137, 138, 139, 140, 141, 142, 143, 144, 145, 146, 147, 148, 149, 150, 151, 152, 153, 154, 155, 156, 157, 158, 159, 160, 161, 162, 163, 164, 165, 166, 167, 168] rfl (by decide +kernel)
set_option maxRecDepth 20000 in
theorem gX9_begin_X9_layStops : GoodIn wsX9_begin (wsV RX9 335 RX9 yX9_layStops wsX9_layStops) := goodIn_app (goodIn_of _ (by decide +kernel)) ggX9_begin_X9_layStops
set_option maxRecDepth 20000 in
theorem ggX9_begin_X9_layAway : GoodIn wsX9_begin wsX9_layAway := goodIn_r _ [77, 78, 28, 48, 79, 45, 2, 3, 4, 5, 6, 7, 8, 9, 10, 11, 104, 105, 106, 107, 108, 109, 110, 111, 112, 113, 114, 115, 116, 117, 118, 119, 120, 121, 122, 123, 124, 125, 126, 127, 128, 129, 130, 131, 132, 133, 134, 135, 136, 137, 138, 139, 140, 141, 142, 143, 144, 145, 146, 147, 148, 149, 150, 151, 152, 153, 154, 155, 156, 157, 158, 159, 160, 161, 162, 163, 164, 165, 166, 167, 168] rfl (by decide +kernel)
set_option maxRecDepth 20000 in
theorem gX9_begin_X9_layAway : GoodIn wsX9_begin (wsV RX9 319 RX9 yX9_layAway wsX9_layAway) := goodIn_app (goodIn_of _ (by decide +kernel)) ggX9_begin_X9_layAway
set_option maxRecDepth 20000 in
theorem ggX9_begin_X9_arrives : GoodIn wsX9_begin wsX9_arrives := goodIn_r _ [83, 84, 1, 85, 48, 86, 79, 87, 88, 89, 5, 90, 28, 49, 91, 92, 93, 94, 45, 30, 95, 96, 97, 98, 29, 37, 38, 39, 40, 99, 100, 101, 102, 103, 78, 35, 41, 42, 43, 44, 46, 47, 19, 36, 23, 50, 51, 52, 53, 54, 55, 56, 57, 58, 59, 60, 61, 62, 63, 64, 65, 66, 67, 68, 104, 105, 106, 107, 108, 109, 110, 111, 112, 113, 114, 115, 116, 117, 118, 119, 120, 121, 122, 123, 124, 125, 126, 127, 128, 129, 130, 131, 132, 133, 134, 135, 136, 137, 138, 139, 140, 141, 142, 143, 144, 145, 146, 147, 148, 149, 150, 151, 152, 153, 154, 155, 156, 157, 158, 159, 160, 161, 162, 163, 164, 165, 166, 167, 168] rfl (by decide +kernel)
set_option maxRecDepth 20000 in
theorem gX9_begin_X9_arrives : GoodIn wsX9_begin (wsV RX9 350 RX9 yX9_arrives wsX9_arrives) := goodIn_app (goodIn_of _ (by decide +kernel)) ggX9_begin_X9_arrives
theorem dX9_begin_0 : decode cX9_begin 0 = .ok (.aload_n 0, 1) := by decide +kernel
theorem dX9_begin_1 : decode cX9_begin 1 = .ok (.iload_n 1, 1) := by decide +kernel
theorem dX9_begin_2 : decode cX9_begin 2 = .ok (.invokevirtual 213, 3) := by decide +kernel
theorem dX9_begin_5 : decode cX9_begin 5 = .ok (.ifCond .eq 13, 3) := by decide +kernel
theorem dX9_begin_8 : decode cX9_begin 8 = .ok (.aload_n 0, 1) := by decide +kernel
theorem dX9_begin_9 : decode cX9_begin 9 = .ok (.iload_n 2, 1) := by decide +kernel
theorem dX9_begin_10 : decode cX9_begin 10 = .ok (.iconst 0, 1) := by decide +kernel
theorem dX9_begin_11 : decode cX9_begin 11 = .ok (.iconst 1, 1) := by decide +kernel
theorem dX9_begin_12 : decode cX9_begin 12 = .ok (.invokevirtual 209, 3) := by decide +kernel
theorem dX9_begin_15 : decode cX9_begin 15 = .ok (.ifCond .ne 5, 3) := by decide +kernel
theorem dX9_begin_18 : decode cX9_begin 18 = .ok (.iconst (-1), 1) := by decide +kernel
theorem dX9_begin_19 : decode cX9_begin 19 = .ok (.ireturn, 1) := by decide +kernel
theorem dX9_begin_20 : decode cX9_begin 20 = .ok (.aload_n 0, 1) := by decide +kernel
theorem dX9_begin_21 : decode cX9_begin 21 = .ok (.invokevirtual 316, 3) := by decide +kernel
theorem dX9_begin_24 : decode cX9_begin 24 = .ok (.aload_n 0, 1) := by decide +kernel
theorem dX9_begin_25 : decode cX9_begin 25 = .ok (.invokevirtual 335, 3) := by decide +kernel
theorem dX9_begin_28 : decode cX9_begin 28 = .ok (.aload_n 0, 1) := by decide +kernel
theorem dX9_begin_29 : decode cX9_begin 29 = .ok (.aload_n 0, 1) := by decide +kernel
theorem dX9_begin_30 : decode cX9_begin 30 = .ok (.getfield 41, 3) := by decide +kernel
theorem dX9_begin_33 : decode cX9_begin 33 = .ok (.invokevirtual 319, 3) := by decide +kernel
theorem dX9_begin_36 : decode cX9_begin 36 = .ok (.bipush (-2), 2) := by decide +kernel
theorem dX9_begin_38 : decode cX9_begin 38 = .ok (.istore_n 3, 1) := by decide +kernel
theorem dX9_begin_39 : decode cX9_begin 39 = .ok (.bipush (-2), 2) := by decide +kernel
theorem dX9_begin_41 : decode cX9_begin 41 = .ok (.istore 4, 2) := by decide +kernel
theorem dX9_begin_43 : decode cX9_begin 43 = .ok (.iconst 0, 1) := by decide +kernel
theorem dX9_begin_44 : decode cX9_begin 44 = .ok (.istore 5, 2) := by decide +kernel
theorem dX9_begin_46 : decode cX9_begin 46 = .ok (.iload 5, 2) := by decide +kernel
theorem dX9_begin_48 : decode cX9_begin 48 = .ok (.bipush 24, 2) := by decide +kernel
theorem dX9_begin_50 : decode cX9_begin 50 = .ok (.if_icmp .ge 62, 3) := by decide +kernel
theorem dX9_begin_53 : decode cX9_begin 53 = .ok (.aload_n 0, 1) := by decide +kernel
theorem dX9_begin_54 : decode cX9_begin 54 = .ok (.iload_n 1, 1) := by decide +kernel
theorem dX9_begin_55 : decode cX9_begin 55 = .ok (.bipush 60, 2) := by decide +kernel
theorem dX9_begin_57 : decode cX9_begin 57 = .ok (.iload 5, 2) := by decide +kernel
theorem dX9_begin_59 : decode cX9_begin 59 = .ok (.imul, 1) := by decide +kernel
theorem dX9_begin_60 : decode cX9_begin 60 = .ok (.bipush 99, 2) := by decide +kernel
theorem dX9_begin_62 : decode cX9_begin 62 = .ok (.invokevirtual 350, 3) := by decide +kernel
theorem dX9_begin_65 : decode cX9_begin 65 = .ok (.istore 6, 2) := by decide +kernel
theorem dX9_begin_67 : decode cX9_begin 67 = .ok (.iload 6, 2) := by decide +kernel
theorem dX9_begin_69 : decode cX9_begin 69 = .ok (.ifCond .lt 37, 3) := by decide +kernel
theorem dX9_begin_72 : decode cX9_begin 72 = .ok (.iload 4, 2) := by decide +kernel
theorem dX9_begin_74 : decode cX9_begin 74 = .ok (.ifCond .lt 19, 3) := by decide +kernel
theorem dX9_begin_77 : decode cX9_begin 77 = .ok (.iload 6, 2) := by decide +kernel
theorem dX9_begin_79 : decode cX9_begin 79 = .ok (.bipush 60, 2) := by decide +kernel
theorem dX9_begin_81 : decode cX9_begin 81 = .ok (.iload 5, 2) := by decide +kernel
theorem dX9_begin_83 : decode cX9_begin 83 = .ok (.imul, 1) := by decide +kernel
theorem dX9_begin_84 : decode cX9_begin 84 = .ok (.isub, 1) := by decide +kernel
theorem dX9_begin_85 : decode cX9_begin 85 = .ok (.iload 4, 2) := by decide +kernel
theorem dX9_begin_87 : decode cX9_begin 87 = .ok (.if_icmp .lt 6, 3) := by decide +kernel
theorem dX9_begin_90 : decode cX9_begin 90 = .ok (.goto 16, 3) := by decide +kernel
theorem dX9_begin_93 : decode cX9_begin 93 = .ok (.iload 5, 2) := by decide +kernel
theorem dX9_begin_95 : decode cX9_begin 95 = .ok (.istore_n 3, 1) := by decide +kernel
theorem dX9_begin_96 : decode cX9_begin 96 = .ok (.iload 6, 2) := by decide +kernel
theorem dX9_begin_98 : decode cX9_begin 98 = .ok (.bipush 60, 2) := by decide +kernel
theorem dX9_begin_100 : decode cX9_begin 100 = .ok (.iload 5, 2) := by decide +kernel
theorem dX9_begin_102 : decode cX9_begin 102 = .ok (.imul, 1) := by decide +kernel
theorem dX9_begin_103 : decode cX9_begin 103 = .ok (.isub, 1) := by decide +kernel
theorem dX9_begin_104 : decode cX9_begin 104 = .ok (.istore 4, 2) := by decide +kernel
theorem dX9_begin_106 : decode cX9_begin 106 = .ok (.iinc 5 1, 3) := by decide +kernel
theorem dX9_begin_109 : decode cX9_begin 109 = .ok (.goto (-63), 3) := by decide +kernel
theorem dX9_begin_112 : decode cX9_begin 112 = .ok (.iload_n 2, 1) := by decide +kernel
theorem dX9_begin_113 : decode cX9_begin 113 = .ok (.ifCond .ne 7, 3) := by decide +kernel
theorem dX9_begin_116 : decode cX9_begin 116 = .ok (.iload_n 3, 1) := by decide +kernel
theorem dX9_begin_117 : decode cX9_begin 117 = .ok (.goto 5, 3) := by decide +kernel
theorem dX9_begin_120 : decode cX9_begin 120 = .ok (.iload 4, 2) := by decide +kernel
theorem dX9_begin_122 : decode cX9_begin 122 = .ok (.ireturn, 1) := by decide +kernel
set_option maxRecDepth 20000 in
theorem ggX9_arrivesAs_X9_asIs : GoodIn wsX9_arrivesAs wsX9_asIs := goodIn_r _ [7, 8, 9, 10, 1, 11, 2, 12, 13, 91, 92, 93, 94, 95, 96, 97, 98, 99, 100, 101, 102, 103, 104, 105, 106, 107, 108, 109, 110, 111, 112, 113, 114, 115, 116, 117, 118, 119, 120, 121, 122, 123, 124, 125, 126, 127, 128, 129, 130, 131, 132, 133, 134, 135, 136, 137, 138, 139, 140, 141, 142, 143, 144, 145, 146, 147, 148, 149, 150, 151, 152, 153, 154, 155] rfl (by decide +kernel)
set_option maxRecDepth 20000 in
theorem gX9_arrivesAs_X9_asIs : GoodIn wsX9_arrivesAs (wsV RX9 316 RX9 yX9_asIs wsX9_asIs) := goodIn_app (goodIn_of _ (by decide +kernel)) ggX9_arrivesAs_X9_asIs
set_option maxRecDepth 20000 in
theorem ggX9_arrivesAs_X9_layStops : GoodIn wsX9_arrivesAs wsX9_layStops := goodIn_r _ [17, 18, 19, 20, 21, 22, 23, 6, 24, 9, 25, 1, 26, 27, 28, 29, 30, 31, 32, 33, 34, 35, 36, 37, 38, 13, 39, 40, 41, 42, 43, 44, 45, 46, 47, 48, 49, 50, 51, 52, 53, 54, 55, 56, 57, 58, 59, 60, 61, 62, 63, 2, 91, 92, 93, 94, 95, 96, 97, 98, 99, 100, 101, 102, 103, 104, 105, 106, 107, 108, 109, 110, 111, 112, 113, 114, 115, 116, 117, 118, 119, 120, 121, 122, 123, 124, 125, 126, 127, 128, 129, 130, 131, 132, 133, 134, 135, 136, 137, 138, 139, 140, 141, 142, 143, 144, 145, 146, 147, 148, 149, 150, 151, 152, 153, 154, 155] rfl (by decide +kernel)
set_option maxRecDepth 20000 in
theorem gX9_arrivesAs_X9_layStops : GoodIn wsX9_arrivesAs (wsV RX9 335 RX9 yX9_layStops wsX9_layStops) := goodIn_app (goodIn_of _ (by decide +kernel)) ggX9_arrivesAs_X9_layStops
set_option maxRecDepth 20000 in
theorem ggX9_arrivesAs_X9_arrives : GoodIn wsX9_arrivesAs wsX9_arrives := goodIn_r _ [67, 68, 69, 70, 38, 71, 72, 73, 74, 75, 6, 76, 18, 39, 77, 78, 79, 80, 35, 20, 81, 82, 83, 84, 19, 27, 28, 29, 30, 85, 86, 87, 88, 89, 90, 25, 31, 32, 33, 34, 36, 37, 1, 26, 13, 40, 41, 42, 43, 44, 45, 46, 47, 48, 49, 50, 51, 52, 53, 54, 55, 56, 57, 58, 91, 92, 93, 94, 95, 96, 97, 98, 99, 100, 101, 102, 103, 104, 105, 106, 107, 108, 109, 110, 111, 112, 113, 114, 115, 116, 117, 118, 119, 120, 121, 122, 123, 124, 125, 126, 127, 128, 129, 130, 131, 132, 133, 134, 135, 136, 137, 138, 139, 140, 141, 142, 143, 144, 145, 146, 147, 148, 149, 150, 151, 152, 153, 154, 155] rfl (by decide +kernel)
set_option maxRecDepth 20000 in
theorem gX9_arrivesAs_X9_arrives : GoodIn wsX9_arrivesAs (wsV RX9 350 RX9 yX9_arrives wsX9_arrives) := goodIn_app (goodIn_of _ (by decide +kernel)) ggX9_arrivesAs_X9_arrives
theorem dX9_arrivesAs_0 : decode cX9_arrivesAs 0 = .ok (.aload_n 0, 1) := by decide +kernel
theorem dX9_arrivesAs_1 : decode cX9_arrivesAs 1 = .ok (.invokevirtual 316, 3) := by decide +kernel
theorem dX9_arrivesAs_4 : decode cX9_arrivesAs 4 = .ok (.aload_n 0, 1) := by decide +kernel
theorem dX9_arrivesAs_5 : decode cX9_arrivesAs 5 = .ok (.iload_n 2, 1) := by decide +kernel
theorem dX9_arrivesAs_6 : decode cX9_arrivesAs 6 = .ok (.putfield 160, 3) := by decide +kernel
theorem dX9_arrivesAs_9 : decode cX9_arrivesAs 9 = .ok (.aload_n 0, 1) := by decide +kernel
theorem dX9_arrivesAs_10 : decode cX9_arrivesAs 10 = .ok (.iload_n 3, 1) := by decide +kernel
theorem dX9_arrivesAs_11 : decode cX9_arrivesAs 11 = .ok (.putfield 163, 3) := by decide +kernel
theorem dX9_arrivesAs_14 : decode cX9_arrivesAs 14 = .ok (.aload_n 0, 1) := by decide +kernel
theorem dX9_arrivesAs_15 : decode cX9_arrivesAs 15 = .ok (.invokevirtual 335, 3) := by decide +kernel
theorem dX9_arrivesAs_18 : decode cX9_arrivesAs 18 = .ok (.aload_n 0, 1) := by decide +kernel
theorem dX9_arrivesAs_19 : decode cX9_arrivesAs 19 = .ok (.iload_n 1, 1) := by decide +kernel
theorem dX9_arrivesAs_20 : decode cX9_arrivesAs 20 = .ok (.sipush 10000, 3) := by decide +kernel
theorem dX9_arrivesAs_23 : decode cX9_arrivesAs 23 = .ok (.idiv, 1) := by decide +kernel
theorem dX9_arrivesAs_24 : decode cX9_arrivesAs 24 = .ok (.iload_n 1, 1) := by decide +kernel
theorem dX9_arrivesAs_25 : decode cX9_arrivesAs 25 = .ok (.sipush 10000, 3) := by decide +kernel
theorem dX9_arrivesAs_28 : decode cX9_arrivesAs 28 = .ok (.irem, 1) := by decide +kernel
theorem dX9_arrivesAs_29 : decode cX9_arrivesAs 29 = .ok (.bipush 99, 2) := by decide +kernel
theorem dX9_arrivesAs_31 : decode cX9_arrivesAs 31 = .ok (.invokevirtual 350, 3) := by decide +kernel
theorem dX9_arrivesAs_34 : decode cX9_arrivesAs 34 = .ok (.ireturn, 1) := by decide +kernel
set_option maxRecDepth 20000 in
theorem ggX9_two_X9_isTime : GoodIn wsX9_two wsX9_isTime := goodIn_r _ [7, 8, 9, 10, 6, 11, 12, 13, 14, 15, 16, 17, 18, 19, 20, 116, 117, 118, 119, 120, 121, 122, 123, 124, 125, 126, 127, 128, 129, 130, 131, 132, 133, 134, 135, 136, 137, 138, 139, 140, 141, 142, 143, 144, 145, 146, 147, 148, 149, 150, 151, 152, 153, 154, 155, 156, 157, 158, 159, 160, 161, 162, 163, 164, 165, 166, 167, 168, 169, 170, 171, 172, 173, 174, 175, 176, 177, 178, 179, 180] rfl (by decide +kernel)
set_option maxRecDepth 20000 in
theorem gX9_two_X9_isTime : GoodIn wsX9_two (wsV RX9 347 RX9 yX9_isTime wsX9_isTime) := goodIn_app (goodIn_of _ (by decide +kernel)) ggX9_two_X9_isTime
set_option maxRecDepth 20000 in
theorem ggX9_two_X9_within : GoodIn wsX9_two wsX9_within := goodIn_r _ [16] rfl (by decide +kernel)
set_option maxRecDepth 20000 in
theorem gX9_two_X9_within : GoodIn wsX9_two (wsV RX9 209 RX9 yX9_within wsX9_within) := goodIn_app (goodIn_of _ (by decide +kernel)) ggX9_two_X9_within
set_option maxRecDepth 20000 in
theorem ggX9_two_X9_layAway : GoodIn wsX9_two wsX9_layAway := goodIn_r _ [24, 25, 26, 27, 28, 29, 8, 9, 10, 6, 11, 12, 13, 14, 15, 16, 116, 117, 118, 119, 120, 121, 122, 123, 124, 125, 126, 127, 128, 129, 130, 131, 132, 133, 134, 135, 136, 137, 138, 139, 140, 141, 142, 143, 144, 145, 146, 147, 148, 149, 150, 151, 152, 153, 154, 155, 156, 157, 158, 159, 160, 161, 162, 163, 164, 165, 166, 167, 168, 169, 170, 171, 172, 173, 174, 175, 176, 177, 178, 179, 180] rfl (by decide +kernel)
set_option maxRecDepth 20000 in
theorem gX9_two_X9_layAway : GoodIn wsX9_two (wsV RX9 319 RX9 yX9_layAway wsX9_layAway) := goodIn_app (goodIn_of _ (by decide +kernel)) ggX9_two_X9_layAway
set_option maxRecDepth 20000 in
theorem ggX9_two_X9_arrivesAs : GoodIn wsX9_two wsX9_arrivesAs := goodIn_r _ [33, 34, 35, 36, 37, 38, 6, 39, 40, 41, 42, 2, 43, 44, 45, 46, 47, 48, 26, 49, 50, 51, 52, 53, 54, 55, 56, 57, 58, 59, 60, 61, 62, 63, 64, 29, 65, 66, 27, 67, 68, 69, 70, 71, 72, 73, 74, 75, 76, 77, 78, 79, 80, 81, 82, 83, 84, 85, 86, 87, 88, 89, 90, 91, 92, 93, 94, 95, 96, 1, 97, 98, 28, 99, 100, 101, 102, 103, 104, 105, 106, 107, 108, 109, 110, 111, 112, 113, 114, 115, 25, 116, 117, 118, 119, 120, 121, 122, 123, 124, 125, 126, 127, 128, 129, 130, 131, 132, 133, 134, 135, 136, 137, 138, 139, 140, 141, 142, 143, 144, 145, 146, 147, 148, 149, 150, 151, 152, 153, 154, 155, 156, 157, 158, 159, 160, 161, 162, 163, 164, 165, 166, 167, 168, 169, 170, 171, 172, 173, 174, 175, 176, 177, 178, 179, 180] rfl (by decide +kernel)
set_option maxRecDepth 20000 in
theorem gX9_two_X9_arrivesAs : GoodIn wsX9_two (wsV RX9 359 RX9 yX9_arrivesAs wsX9_arrivesAs) := goodIn_app (goodIn_of _ (by decide +kernel)) ggX9_two_X9_arrivesAs
theorem dX9_two_0 : decode cX9_two 0 = .ok (.aload_n 0, 1) := by decide +kernel
theorem dX9_two_1 : decode cX9_two 1 = .ok (.iload_n 1, 1) := by decide +kernel
theorem dX9_two_2 : decode cX9_two 2 = .ok (.invokevirtual 347, 3) := by decide +kernel
theorem dX9_two_5 : decode cX9_two 5 = .ok (.ifCond .eq 13, 3) := by decide +kernel
theorem dX9_two_8 : decode cX9_two 8 = .ok (.aload_n 0, 1) := by decide +kernel
theorem dX9_two_9 : decode cX9_two 9 = .ok (.iload_n 2, 1) := by decide +kernel
theorem dX9_two_10 : decode cX9_two 10 = .ok (.iconst 0, 1) := by decide +kernel
theorem dX9_two_11 : decode cX9_two 11 = .ok (.iconst 1, 1) := by decide +kernel
theorem dX9_two_12 : decode cX9_two 12 = .ok (.invokevirtual 209, 3) := by decide +kernel
theorem dX9_two_15 : decode cX9_two 15 = .ok (.ifCond .ne 5, 3) := by decide +kernel
theorem dX9_two_18 : decode cX9_two 18 = .ok (.iconst (-1), 1) := by decide +kernel
theorem dX9_two_19 : decode cX9_two 19 = .ok (.ireturn, 1) := by decide +kernel
theorem dX9_two_20 : decode cX9_two 20 = .ok (.aload_n 0, 1) := by decide +kernel
theorem dX9_two_21 : decode cX9_two 21 = .ok (.aload_n 0, 1) := by decide +kernel
theorem dX9_two_22 : decode cX9_two 22 = .ok (.getfield 41, 3) := by decide +kernel
theorem dX9_two_25 : decode cX9_two 25 = .ok (.invokevirtual 319, 3) := by decide +kernel
theorem dX9_two_28 : decode cX9_two 28 = .ok (.iload_n 2, 1) := by decide +kernel
theorem dX9_two_29 : decode cX9_two 29 = .ok (.iconst 1, 1) := by decide +kernel
theorem dX9_two_30 : decode cX9_two 30 = .ok (.if_icmp .ne 14, 3) := by decide +kernel
theorem dX9_two_33 : decode cX9_two 33 = .ok (.aload_n 0, 1) := by decide +kernel
theorem dX9_two_34 : decode cX9_two 34 = .ok (.iload_n 1, 1) := by decide +kernel
theorem dX9_two_35 : decode cX9_two 35 = .ok (.iconst 2, 1) := by decide +kernel
theorem dX9_two_36 : decode cX9_two 36 = .ok (.aload_n 0, 1) := by decide +kernel
theorem dX9_two_37 : decode cX9_two 37 = .ok (.getfield 56, 3) := by decide +kernel
theorem dX9_two_40 : decode cX9_two 40 = .ok (.invokevirtual 359, 3) := by decide +kernel
theorem dX9_two_43 : decode cX9_two 43 = .ok (.ireturn, 1) := by decide +kernel
theorem dX9_two_44 : decode cX9_two 44 = .ok (.aload_n 0, 1) := by decide +kernel
theorem dX9_two_45 : decode cX9_two 45 = .ok (.iload_n 1, 1) := by decide +kernel
theorem dX9_two_46 : decode cX9_two 46 = .ok (.iconst 1, 1) := by decide +kernel
theorem dX9_two_47 : decode cX9_two 47 = .ok (.aload_n 0, 1) := by decide +kernel
theorem dX9_two_48 : decode cX9_two 48 = .ok (.getfield 56, 3) := by decide +kernel
theorem dX9_two_51 : decode cX9_two 51 = .ok (.invokevirtual 359, 3) := by decide +kernel
theorem dX9_two_54 : decode cX9_two 54 = .ok (.istore_n 3, 1) := by decide +kernel
theorem dX9_two_55 : decode cX9_two 55 = .ok (.aload_n 0, 1) := by decide +kernel
theorem dX9_two_56 : decode cX9_two 56 = .ok (.iload_n 1, 1) := by decide +kernel
theorem dX9_two_57 : decode cX9_two 57 = .ok (.iconst 1, 1) := by decide +kernel
theorem dX9_two_58 : decode cX9_two 58 = .ok (.aload_n 0, 1) := by decide +kernel
theorem dX9_two_59 : decode cX9_two 59 = .ok (.getfield 56, 3) := by decide +kernel
theorem dX9_two_62 : decode cX9_two 62 = .ok (.iconst 1, 1) := by decide +kernel
theorem dX9_two_63 : decode cX9_two 63 = .ok (.iadd, 1) := by decide +kernel
theorem dX9_two_64 : decode cX9_two 64 = .ok (.invokevirtual 359, 3) := by decide +kernel
theorem dX9_two_67 : decode cX9_two 67 = .ok (.istore 4, 2) := by decide +kernel
theorem dX9_two_69 : decode cX9_two 69 = .ok (.iload_n 3, 1) := by decide +kernel
theorem dX9_two_70 : decode cX9_two 70 = .ok (.ifCond .lt 8, 3) := by decide +kernel
theorem dX9_two_73 : decode cX9_two 73 = .ok (.iload 4, 2) := by decide +kernel
theorem dX9_two_75 : decode cX9_two 75 = .ok (.ifCond .ge 8, 3) := by decide +kernel
theorem dX9_two_78 : decode cX9_two 78 = .ok (.bipush (-2), 2) := by decide +kernel
theorem dX9_two_80 : decode cX9_two 80 = .ok (.goto 15, 3) := by decide +kernel
theorem dX9_two_83 : decode cX9_two 83 = .ok (.iload_n 3, 1) := by decide +kernel
theorem dX9_two_84 : decode cX9_two 84 = .ok (.iload 4, 2) := by decide +kernel
theorem dX9_two_86 : decode cX9_two 86 = .ok (.if_icmp .le 7, 3) := by decide +kernel
theorem dX9_two_89 : decode cX9_two 89 = .ok (.iload_n 3, 1) := by decide +kernel
theorem dX9_two_90 : decode cX9_two 90 = .ok (.goto 5, 3) := by decide +kernel
theorem dX9_two_93 : decode cX9_two 93 = .ok (.iload 4, 2) := by decide +kernel
theorem dX9_two_95 : decode cX9_two 95 = .ok (.ireturn, 1) := by decide +kernel
set_option maxRecDepth 20000 in
theorem ggX9_book_X9_isShelf : GoodIn wsX9_book wsX9_isShelf := goodIn_r _ [13, 14, 15, 16, 12, 17] rfl (by decide +kernel)
set_option maxRecDepth 20000 in
theorem gX9_book_X9_isShelf : GoodIn wsX9_book (wsV RX9 362 RX9 yX9_isShelf wsX9_isShelf) := goodIn_app (goodIn_of _ (by decide +kernel)) ggX9_book_X9_isShelf
set_option maxRecDepth 20000 in
theorem ggX9_book_X9_isMinute : GoodIn wsX9_book wsX9_isMinute := goodIn_r _ [21, 14, 15, 16, 12, 17] rfl (by decide +kernel)
set_option maxRecDepth 20000 in
theorem gX9_book_X9_isMinute : GoodIn wsX9_book (wsV RX9 332 RX9 yX9_isMinute wsX9_isMinute) := goodIn_app (goodIn_of _ (by decide +kernel)) ggX9_book_X9_isMinute
set_option maxRecDepth 20000 in
theorem ggX9_book_X9_within : GoodIn wsX9_book wsX9_within := goodIn_r _ [17] rfl (by decide +kernel)
set_option maxRecDepth 20000 in
theorem gX9_book_X9_within : GoodIn wsX9_book (wsV RX9 209 RX9 yX9_within wsX9_within) := goodIn_app (goodIn_of _ (by decide +kernel)) ggX9_book_X9_within
set_option maxRecDepth 20000 in
theorem ggX9_book_X9_asIs : GoodIn wsX9_book wsX9_asIs := goodIn_r _ [25, 26, 6, 27, 28, 29, 30, 31, 32, 99, 100, 101, 102, 103, 104, 105, 106, 107, 108, 109, 110, 111, 112, 113, 114, 115, 116, 117, 118, 119, 120, 121, 122, 123, 124, 125, 126, 127, 128, 129, 130, 131, 132, 133, 134, 135, 136, 137, 138, 139, 140, 141, 142, 143, 144, 145, 146, 147, 148, 149, 150, 151, 152, 153, 154, 155, 156, 157, 158, 159, 160, 161, 162, 163] rfl (by decide +kernel)
set_option maxRecDepth 20000 in
theorem gX9_book_X9_asIs : GoodIn wsX9_book (wsV RX9 316 RX9 yX9_asIs wsX9_asIs) := goodIn_app (goodIn_of _ (by decide +kernel)) ggX9_book_X9_asIs
set_option maxRecDepth 20000 in
theorem ggX9_book_X9_layStops : GoodIn wsX9_book wsX9_layStops := goodIn_r _ [36, 37, 38, 39, 40, 41, 42, 12, 43, 6, 44, 28, 45, 46, 47, 48, 49, 50, 51, 52, 53, 54, 55, 56, 57, 32, 58, 59, 60, 61, 62, 63, 64, 65, 66, 67, 68, 69, 70, 71, 72, 73, 74, 75, 76, 77, 78, 79, 80, 81, 82, 30, 99, 100, 101, 102, 103, 104, 105, 106, 107, 108, 109, 110, 111, 112, 113, 114, 115, 116, 117, 118, 119, 120, 121, 122, 123, 124, 125, 126, 127, 128, 129, 130, 131, 132, 133, 134, 135, 136, 137, 138, 139, 140, 141, 142, 143, 144, 145, 146, 147, 148, 149, 150, 151, 152, 153, 154, 155, 156, 157, 158, 159, 160, 161, 162, 163] rfl (by decide +kernel)
set_option maxRecDepth 20000 in
theorem gX9_book_X9_layStops : GoodIn wsX9_book (wsV RX9 335 RX9 yX9_layStops wsX9_layStops) := goodIn_app (goodIn_of _ (by decide +kernel)) ggX9_book_X9_layStops
set_option maxRecDepth 20000 in
theorem ggX9_book_X9_waitAt : GoodIn wsX9_book wsX9_waitAt := goodIn_r _ [86, 87, 88, 89, 12, 90, 37, 91, 92, 93, 94, 54, 39, 95, 96, 97, 98, 38, 46, 47, 48, 49, 99, 100, 101, 102, 103, 104, 105, 106, 107, 108, 109, 110, 111, 112, 113, 114, 115, 116, 117, 118, 119, 120, 121, 122, 123, 124, 125, 126, 127, 128, 129, 130, 131, 132, 133, 134, 135, 136, 137, 138, 139, 140, 141, 142, 143, 144, 145, 146, 147, 148, 149, 150, 151, 152, 153, 154, 155, 156, 157, 158, 159, 160, 161, 162, 163] rfl (by decide +kernel)
set_option maxRecDepth 20000 in
theorem gX9_book_X9_waitAt : GoodIn wsX9_book (wsV RX9 338 RX9 yX9_waitAt wsX9_waitAt) := goodIn_app (goodIn_of _ (by decide +kernel)) ggX9_book_X9_waitAt
theorem dX9_book_0 : decode cX9_book 0 = .ok (.aload_n 0, 1) := by decide +kernel
theorem dX9_book_1 : decode cX9_book 1 = .ok (.iload_n 1, 1) := by decide +kernel
theorem dX9_book_2 : decode cX9_book 2 = .ok (.invokevirtual 362, 3) := by decide +kernel
theorem dX9_book_5 : decode cX9_book 5 = .ok (.ifCond .eq 21, 3) := by decide +kernel
theorem dX9_book_8 : decode cX9_book 8 = .ok (.aload_n 0, 1) := by decide +kernel
theorem dX9_book_9 : decode cX9_book 9 = .ok (.iload_n 2, 1) := by decide +kernel
theorem dX9_book_10 : decode cX9_book 10 = .ok (.invokevirtual 332, 3) := by decide +kernel
theorem dX9_book_13 : decode cX9_book 13 = .ok (.ifCond .eq 13, 3) := by decide +kernel
theorem dX9_book_16 : decode cX9_book 16 = .ok (.aload_n 0, 1) := by decide +kernel
theorem dX9_book_17 : decode cX9_book 17 = .ok (.iload_n 3, 1) := by decide +kernel
theorem dX9_book_18 : decode cX9_book 18 = .ok (.iconst 0, 1) := by decide +kernel
theorem dX9_book_19 : decode cX9_book 19 = .ok (.iconst 1, 1) := by decide +kernel
theorem dX9_book_20 : decode cX9_book 20 = .ok (.invokevirtual 209, 3) := by decide +kernel
theorem dX9_book_23 : decode cX9_book 23 = .ok (.ifCond .ne 6, 3) := by decide +kernel
theorem dX9_book_26 : decode cX9_book 26 = .ok (.ldc 232, 2) := by decide +kernel
theorem dX9_book_28 : decode cX9_book 28 = .ok (.ireturn, 1) := by decide +kernel
theorem dX9_book_29 : decode cX9_book 29 = .ok (.aload_n 0, 1) := by decide +kernel
theorem dX9_book_30 : decode cX9_book 30 = .ok (.getfield 196, 3) := by decide +kernel
theorem dX9_book_33 : decode cX9_book 33 = .ok (.iload_n 1, 1) := by decide +kernel
theorem dX9_book_34 : decode cX9_book 34 = .ok (.iaload, 1) := by decide +kernel
theorem dX9_book_35 : decode cX9_book 35 = .ok (.iconst (-1), 1) := by decide +kernel
theorem dX9_book_36 : decode cX9_book 36 = .ok (.if_icmp .ne 6, 3) := by decide +kernel
theorem dX9_book_39 : decode cX9_book 39 = .ok (.bipush (-11), 2) := by decide +kernel
theorem dX9_book_41 : decode cX9_book 41 = .ok (.ireturn, 1) := by decide +kernel
theorem dX9_book_42 : decode cX9_book 42 = .ok (.aload_n 0, 1) := by decide +kernel
theorem dX9_book_43 : decode cX9_book 43 = .ok (.getfield 196, 3) := by decide +kernel
theorem dX9_book_46 : decode cX9_book 46 = .ok (.iload_n 1, 1) := by decide +kernel
theorem dX9_book_47 : decode cX9_book 47 = .ok (.iaload, 1) := by decide +kernel
theorem dX9_book_48 : decode cX9_book 48 = .ok (.bipush (-4), 2) := by decide +kernel
theorem dX9_book_50 : decode cX9_book 50 = .ok (.if_icmp .eq 6, 3) := by decide +kernel
theorem dX9_book_53 : decode cX9_book 53 = .ok (.bipush (-12), 2) := by decide +kernel
theorem dX9_book_55 : decode cX9_book 55 = .ok (.ireturn, 1) := by decide +kernel
theorem dX9_book_56 : decode cX9_book 56 = .ok (.aload_n 0, 1) := by decide +kernel
theorem dX9_book_57 : decode cX9_book 57 = .ok (.getfield 199, 3) := by decide +kernel
theorem dX9_book_60 : decode cX9_book 60 = .ok (.iload_n 1, 1) := by decide +kernel
theorem dX9_book_61 : decode cX9_book 61 = .ok (.iaload, 1) := by decide +kernel
theorem dX9_book_62 : decode cX9_book 62 = .ok (.aload_n 0, 1) := by decide +kernel
theorem dX9_book_63 : decode cX9_book 63 = .ok (.getfield 7, 3) := by decide +kernel
theorem dX9_book_66 : decode cX9_book 66 = .ok (.if_icmp .ge 6, 3) := by decide +kernel
theorem dX9_book_69 : decode cX9_book 69 = .ok (.bipush (-13), 2) := by decide +kernel
theorem dX9_book_71 : decode cX9_book 71 = .ok (.ireturn, 1) := by decide +kernel
theorem dX9_book_72 : decode cX9_book 72 = .ok (.aload_n 0, 1) := by decide +kernel
theorem dX9_book_73 : decode cX9_book 73 = .ok (.invokevirtual 316, 3) := by decide +kernel
theorem dX9_book_76 : decode cX9_book 76 = .ok (.iconst (-1), 1) := by decide +kernel
theorem dX9_book_77 : decode cX9_book 77 = .ok (.istore 4, 2) := by decide +kernel
theorem dX9_book_79 : decode cX9_book 79 = .ok (.iconst (-1), 1) := by decide +kernel
theorem dX9_book_80 : decode cX9_book 80 = .ok (.istore 5, 2) := by decide +kernel
theorem dX9_book_82 : decode cX9_book 82 = .ok (.iconst (-1), 1) := by decide +kernel
theorem dX9_book_83 : decode cX9_book 83 = .ok (.istore 6, 2) := by decide +kernel
theorem dX9_book_85 : decode cX9_book 85 = .ok (.iload 6, 2) := by decide +kernel
theorem dX9_book_87 : decode cX9_book 87 = .ok (.aload_n 0, 1) := by decide +kernel
theorem dX9_book_88 : decode cX9_book 88 = .ok (.getfield 77, 3) := by decide +kernel
theorem dX9_book_91 : decode cX9_book 91 = .ok (.if_icmp .ge 157, 3) := by decide +kernel
theorem dX9_book_94 : decode cX9_book 94 = .ok (.aload_n 0, 1) := by decide +kernel
theorem dX9_book_95 : decode cX9_book 95 = .ok (.iload 6, 2) := by decide +kernel
theorem dX9_book_97 : decode cX9_book 97 = .ok (.putfield 157, 3) := by decide +kernel
theorem dX9_book_100 : decode cX9_book 100 = .ok (.aload_n 0, 1) := by decide +kernel
theorem dX9_book_101 : decode cX9_book 101 = .ok (.invokevirtual 335, 3) := by decide +kernel
theorem dX9_book_104 : decode cX9_book 104 = .ok (.iconst 0, 1) := by decide +kernel
theorem dX9_book_105 : decode cX9_book 105 = .ok (.istore 7, 2) := by decide +kernel
theorem dX9_book_107 : decode cX9_book 107 = .ok (.iconst 0, 1) := by decide +kernel
theorem dX9_book_108 : decode cX9_book 108 = .ok (.istore 8, 2) := by decide +kernel
theorem dX9_book_110 : decode cX9_book 110 = .ok (.iload 8, 2) := by decide +kernel
theorem dX9_book_112 : decode cX9_book 112 = .ok (.aload_n 0, 1) := by decide +kernel
theorem dX9_book_113 : decode cX9_book 113 = .ok (.getfield 7, 3) := by decide +kernel
theorem dX9_book_116 : decode cX9_book 116 = .ok (.if_icmp .ge 103, 3) := by decide +kernel
theorem dX9_book_119 : decode cX9_book 119 = .ok (.aload_n 0, 1) := by decide +kernel
theorem dX9_book_120 : decode cX9_book 120 = .ok (.getfield 202, 3) := by decide +kernel
theorem dX9_book_123 : decode cX9_book 123 = .ok (.bipush 60, 2) := by decide +kernel
theorem dX9_book_125 : decode cX9_book 125 = .ok (.iload_n 1, 1) := by decide +kernel
theorem dX9_book_126 : decode cX9_book 126 = .ok (.imul, 1) := by decide +kernel
theorem dX9_book_127 : decode cX9_book 127 = .ok (.iload 8, 2) := by decide +kernel
theorem dX9_book_129 : decode cX9_book 129 = .ok (.iadd, 1) := by decide +kernel
theorem dX9_book_130 : decode cX9_book 130 = .ok (.laload, 1) := by decide +kernel
theorem dX9_book_131 : decode cX9_book 131 = .ok (.lstore 9, 2) := by decide +kernel
theorem dX9_book_133 : decode cX9_book 133 = .ok (.lload 9, 2) := by decide +kernel
theorem dX9_book_135 : decode cX9_book 135 = .ok (.lconst 0, 1) := by decide +kernel
theorem dX9_book_136 : decode cX9_book 136 = .ok (.lcmp, 1) := by decide +kernel
theorem dX9_book_137 : decode cX9_book 137 = .ok (.ifCond .ge 7, 3) := by decide +kernel
theorem dX9_book_140 : decode cX9_book 140 = .ok (.iconst 0, 1) := by decide +kernel
theorem dX9_book_141 : decode cX9_book 141 = .ok (.goto 21, 3) := by decide +kernel
theorem dX9_book_144 : decode cX9_book 144 = .ok (.lload 9, 2) := by decide +kernel
theorem dX9_book_146 : decode cX9_book 146 = .ok (.ldc2_w 365, 3) := by decide +kernel
theorem dX9_book_149 : decode cX9_book 149 = .ok (.lcmp, 1) := by decide +kernel
theorem dX9_book_150 : decode cX9_book 150 = .ok (.ifCond .le 9, 3) := by decide +kernel
theorem dX9_book_153 : decode cX9_book 153 = .ok (.sipush 1440, 3) := by decide +kernel
theorem dX9_book_156 : decode cX9_book 156 = .ok (.goto 6, 3) := by decide +kernel
theorem dX9_book_159 : decode cX9_book 159 = .ok (.lload 9, 2) := by decide +kernel
theorem dX9_book_161 : decode cX9_book 161 = .ok (.l2i, 1) := by decide +kernel
theorem dX9_book_162 : decode cX9_book 162 = .ok (.istore 11, 2) := by decide +kernel
theorem dX9_book_164 : decode cX9_book 164 = .ok (.aload_n 0, 1) := by decide +kernel
theorem dX9_book_165 : decode cX9_book 165 = .ok (.iload 8, 2) := by decide +kernel
theorem dX9_book_167 : decode cX9_book 167 = .ok (.iload_n 2, 1) := by decide +kernel
theorem dX9_book_168 : decode cX9_book 168 = .ok (.invokevirtual 338, 3) := by decide +kernel
theorem dX9_book_171 : decode cX9_book 171 = .ok (.istore 12, 2) := by decide +kernel
theorem dX9_book_173 : decode cX9_book 173 = .ok (.iload 12, 2) := by decide +kernel
theorem dX9_book_175 : decode cX9_book 175 = .ok (.ifCond .ge 9, 3) := by decide +kernel
theorem dX9_book_178 : decode cX9_book 178 = .ok (.sipush 1440, 3) := by decide +kernel
theorem dX9_book_181 : decode cX9_book 181 = .ok (.goto 5, 3) := by decide +kernel
theorem dX9_book_184 : decode cX9_book 184 = .ok (.iload 12, 2) := by decide +kernel
theorem dX9_book_186 : decode cX9_book 186 = .ok (.istore 12, 2) := by decide +kernel
theorem dX9_book_188 : decode cX9_book 188 = .ok (.iload 7, 2) := by decide +kernel
theorem dX9_book_190 : decode cX9_book 190 = .ok (.iload 11, 2) := by decide +kernel
theorem dX9_book_192 : decode cX9_book 192 = .ok (.iload 12, 2) := by decide +kernel
theorem dX9_book_194 : decode cX9_book 194 = .ok (.if_icmp .le 11, 3) := by decide +kernel
theorem dX9_book_197 : decode cX9_book 197 = .ok (.iload 11, 2) := by decide +kernel
theorem dX9_book_199 : decode cX9_book 199 = .ok (.iload 12, 2) := by decide +kernel
theorem dX9_book_201 : decode cX9_book 201 = .ok (.isub, 1) := by decide +kernel
theorem dX9_book_202 : decode cX9_book 202 = .ok (.goto 8, 3) := by decide +kernel
theorem dX9_book_205 : decode cX9_book 205 = .ok (.iload 12, 2) := by decide +kernel
theorem dX9_book_207 : decode cX9_book 207 = .ok (.iload 11, 2) := by decide +kernel
theorem dX9_book_209 : decode cX9_book 209 = .ok (.isub, 1) := by decide +kernel
theorem dX9_book_210 : decode cX9_book 210 = .ok (.iadd, 1) := by decide +kernel
theorem dX9_book_211 : decode cX9_book 211 = .ok (.istore 7, 2) := by decide +kernel
theorem dX9_book_213 : decode cX9_book 213 = .ok (.iinc 8 1, 3) := by decide +kernel
theorem dX9_book_216 : decode cX9_book 216 = .ok (.goto (-106), 3) := by decide +kernel
theorem dX9_book_219 : decode cX9_book 219 = .ok (.iload 5, 2) := by decide +kernel
theorem dX9_book_221 : decode cX9_book 221 = .ok (.ifCond .lt 13, 3) := by decide +kernel
theorem dX9_book_224 : decode cX9_book 224 = .ok (.iload 7, 2) := by decide +kernel
theorem dX9_book_226 : decode cX9_book 226 = .ok (.iload 5, 2) := by decide +kernel
theorem dX9_book_228 : decode cX9_book 228 = .ok (.if_icmp .lt 6, 3) := by decide +kernel
theorem dX9_book_231 : decode cX9_book 231 = .ok (.goto 11, 3) := by decide +kernel
theorem dX9_book_234 : decode cX9_book 234 = .ok (.iload 6, 2) := by decide +kernel
theorem dX9_book_236 : decode cX9_book 236 = .ok (.istore 4, 2) := by decide +kernel
theorem dX9_book_238 : decode cX9_book 238 = .ok (.iload 7, 2) := by decide +kernel
theorem dX9_book_240 : decode cX9_book 240 = .ok (.istore 5, 2) := by decide +kernel
theorem dX9_book_242 : decode cX9_book 242 = .ok (.iinc 6 1, 3) := by decide +kernel
theorem dX9_book_245 : decode cX9_book 245 = .ok (.goto (-160), 3) := by decide +kernel
theorem dX9_book_248 : decode cX9_book 248 = .ok (.iload_n 3, 1) := by decide +kernel
theorem dX9_book_249 : decode cX9_book 249 = .ok (.ifCond .ne 8, 3) := by decide +kernel
theorem dX9_book_252 : decode cX9_book 252 = .ok (.iload 4, 2) := by decide +kernel
theorem dX9_book_254 : decode cX9_book 254 = .ok (.goto 5, 3) := by decide +kernel
theorem dX9_book_257 : decode cX9_book 257 = .ok (.iload 5, 2) := by decide +kernel
theorem dX9_book_259 : decode cX9_book 259 = .ok (.ireturn, 1) := by decide +kernel
theorem dX9_isDanger_0 : decode cX9_isDanger 0 = .ok (.iconst 0, 1) := by decide +kernel
theorem dX9_isDanger_1 : decode cX9_isDanger 1 = .ok (.istore_n 2, 1) := by decide +kernel
theorem dX9_isDanger_2 : decode cX9_isDanger 2 = .ok (.iload_n 2, 1) := by decide +kernel
theorem dX9_isDanger_3 : decode cX9_isDanger 3 = .ok (.aload_n 0, 1) := by decide +kernel
theorem dX9_isDanger_4 : decode cX9_isDanger 4 = .ok (.getfield 13, 3) := by decide +kernel
theorem dX9_isDanger_7 : decode cX9_isDanger 7 = .ok (.if_icmp .ge 21, 3) := by decide +kernel
theorem dX9_isDanger_10 : decode cX9_isDanger 10 = .ok (.aload_n 0, 1) := by decide +kernel
theorem dX9_isDanger_11 : decode cX9_isDanger 11 = .ok (.getfield 35, 3) := by decide +kernel
theorem dX9_isDanger_14 : decode cX9_isDanger 14 = .ok (.iload_n 2, 1) := by decide +kernel
theorem dX9_isDanger_15 : decode cX9_isDanger 15 = .ok (.iaload, 1) := by decide +kernel
theorem dX9_isDanger_16 : decode cX9_isDanger 16 = .ok (.iload_n 1, 1) := by decide +kernel
theorem dX9_isDanger_17 : decode cX9_isDanger 17 = .ok (.if_icmp .ne 5, 3) := by decide +kernel
theorem dX9_isDanger_20 : decode cX9_isDanger 20 = .ok (.iconst 1, 1) := by decide +kernel
theorem dX9_isDanger_21 : decode cX9_isDanger 21 = .ok (.ireturn, 1) := by decide +kernel
theorem dX9_isDanger_22 : decode cX9_isDanger 22 = .ok (.iinc 2 1, 3) := by decide +kernel
theorem dX9_isDanger_25 : decode cX9_isDanger 25 = .ok (.goto (-23), 3) := by decide +kernel
theorem dX9_isDanger_28 : decode cX9_isDanger 28 = .ok (.iload_n 1, 1) := by decide +kernel
theorem dX9_isDanger_29 : decode cX9_isDanger 29 = .ok (.ifCond .ne 7, 3) := by decide +kernel
theorem dX9_isDanger_32 : decode cX9_isDanger 32 = .ok (.iconst 1, 1) := by decide +kernel
theorem dX9_isDanger_33 : decode cX9_isDanger 33 = .ok (.goto 4, 3) := by decide +kernel
theorem dX9_isDanger_36 : decode cX9_isDanger 36 = .ok (.iconst 0, 1) := by decide +kernel
theorem dX9_isDanger_37 : decode cX9_isDanger 37 = .ok (.ireturn, 1) := by decide +kernel
