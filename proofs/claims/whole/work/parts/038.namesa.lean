set_option maxRecDepth 20000 in
theorem ggX8_init_X7_init : GoodIn wsX8_init wsX7_init := goodIn_r _ [38, 39, 2, 3, 40, 41, 42, 43, 14, 44, 45, 46, 47, 48, 49, 50, 51, 52, 53, 54, 55, 56, 57, 58, 59, 60, 61, 62, 63, 64, 65, 66, 67, 68, 69, 155, 156, 157, 158, 159, 160, 161, 162, 163, 164, 97, 98, 99, 100, 101, 102, 103, 104, 105, 106, 107, 108, 109, 110, 111, 112, 113, 165, 166, 167] rfl (by decide +kernel)
set_option maxRecDepth 20000 in
theorem gX8_init_X7_init_n9 : GoodIn wsX8_init (wsX7_init) := ggX8_init_X7_init
set_option maxRecDepth 20000 in
theorem ggX8_init_X1_init : GoodIn wsX8_init wsX1_init := goodIn_r _ [71, 72, 2, 3, 14, 73, 74, 75, 76, 130, 131, 132, 133, 134, 135] rfl (by decide +kernel)
set_option maxRecDepth 20000 in
theorem gX8_init_X1_init_n23 : GoodIn wsX8_init (wsX1_init) := ggX8_init_X1_init
set_option maxRecDepth 20000 in
theorem ggX8_init_X4_init : GoodIn wsX8_init wsX4_init := goodIn_r _ [78, 79, 2, 3] rfl (by decide +kernel)
set_option maxRecDepth 20000 in
theorem gX8_init_X4_init_n40 : GoodIn wsX8_init (wsX4_init) := ggX8_init_X4_init
set_option maxRecDepth 20000 in
theorem ggX8_init_X6_init : GoodIn wsX8_init wsX6_init := goodIn_r _ [81, 82, 2, 3, 14, 83, 84, 141, 142, 143, 144] rfl (by decide +kernel)
set_option maxRecDepth 20000 in
theorem gX8_init_X6_init_n55 : GoodIn wsX8_init (wsX6_init) := ggX8_init_X6_init
set_option maxRecDepth 20000 in
theorem ggX8_init_X0_init : GoodIn wsX8_init wsX0_init := goodIn_r _ [86, 87, 2, 3, 14, 88, 89, 145, 146, 147, 148, 149, 150] rfl (by decide +kernel)
set_option maxRecDepth 20000 in
theorem gX8_init_X0_init_n65 : GoodIn wsX8_init (wsX0_init) := ggX8_init_X0_init
set_option maxRecDepth 20000 in
theorem ggX8_init_X5_init : GoodIn wsX8_init wsX5_init := goodIn_r _ [91, 92, 2, 3, 93, 94, 95, 96, 151, 152, 153, 154] rfl (by decide +kernel)
set_option maxRecDepth 20000 in
theorem gX8_init_X5_init_n76 : GoodIn wsX8_init (wsX5_init) := ggX8_init_X5_init
theorem dX8_init_0 : decode cX8_init 0 = .ok (.aload_n 0, 1) := by decide +kernel
theorem dX8_init_1 : decode cX8_init 1 = .ok (.invokespecial 1, 3) := by decide +kernel
theorem dX8_init_4 : decode cX8_init 4 = .ok (.aload_n 0, 1) := by decide +kernel
theorem dX8_init_5 : decode cX8_init 5 = .ok (.new 7, 3) := by decide +kernel
theorem dX8_init_8 : decode cX8_init 8 = .ok (.dup, 1) := by decide +kernel
theorem dX8_init_9 : decode cX8_init 9 = .ok (.invokespecial 9, 3) := by decide +kernel
theorem dX8_init_12 : decode cX8_init 12 = .ok (.putfield 10, 3) := by decide +kernel
theorem dX8_init_15 : decode cX8_init 15 = .ok (.aload_n 0, 1) := by decide +kernel
theorem dX8_init_16 : decode cX8_init 16 = .ok (.aload_n 0, 1) := by decide +kernel
theorem dX8_init_17 : decode cX8_init 17 = .ok (.getfield 10, 3) := by decide +kernel
theorem dX8_init_20 : decode cX8_init 20 = .ok (.getfield 16, 3) := by decide +kernel
theorem dX8_init_23 : decode cX8_init 23 = .ok (.putfield 20, 3) := by decide +kernel
theorem dX8_init_26 : decode cX8_init 26 = .ok (.aload_n 0, 1) := by decide +kernel
theorem dX8_init_27 : decode cX8_init 27 = .ok (.new 21, 3) := by decide +kernel
theorem dX8_init_30 : decode cX8_init 30 = .ok (.dup, 1) := by decide +kernel
theorem dX8_init_31 : decode cX8_init 31 = .ok (.invokespecial 23, 3) := by decide +kernel
theorem dX8_init_34 : decode cX8_init 34 = .ok (.putfield 24, 3) := by decide +kernel
theorem dX8_init_37 : decode cX8_init 37 = .ok (.aload_n 0, 1) := by decide +kernel
theorem dX8_init_38 : decode cX8_init 38 = .ok (.bipush 6, 2) := by decide +kernel
theorem dX8_init_40 : decode cX8_init 40 = .ok (.newarray .int, 2) := by decide +kernel
theorem dX8_init_42 : decode cX8_init 42 = .ok (.dup, 1) := by decide +kernel
theorem dX8_init_43 : decode cX8_init 43 = .ok (.iconst 0, 1) := by decide +kernel
theorem dX8_init_44 : decode cX8_init 44 = .ok (.iconst 0, 1) := by decide +kernel
theorem dX8_init_45 : decode cX8_init 45 = .ok (.iastore, 1) := by decide +kernel
theorem dX8_init_46 : decode cX8_init 46 = .ok (.dup, 1) := by decide +kernel
theorem dX8_init_47 : decode cX8_init 47 = .ok (.iconst 1, 1) := by decide +kernel
theorem dX8_init_48 : decode cX8_init 48 = .ok (.sipush 1200, 3) := by decide +kernel
theorem dX8_init_51 : decode cX8_init 51 = .ok (.iastore, 1) := by decide +kernel
theorem dX8_init_52 : decode cX8_init 52 = .ok (.dup, 1) := by decide +kernel
theorem dX8_init_53 : decode cX8_init 53 = .ok (.iconst 2, 1) := by decide +kernel
theorem dX8_init_54 : decode cX8_init 54 = .ok (.iconst 1, 1) := by decide +kernel
theorem dX8_init_55 : decode cX8_init 55 = .ok (.iastore, 1) := by decide +kernel
theorem dX8_init_56 : decode cX8_init 56 = .ok (.dup, 1) := by decide +kernel
theorem dX8_init_57 : decode cX8_init 57 = .ok (.iconst 3, 1) := by decide +kernel
theorem dX8_init_58 : decode cX8_init 58 = .ok (.iconst 0, 1) := by decide +kernel
theorem dX8_init_59 : decode cX8_init 59 = .ok (.iastore, 1) := by decide +kernel
theorem dX8_init_60 : decode cX8_init 60 = .ok (.dup, 1) := by decide +kernel
theorem dX8_init_61 : decode cX8_init 61 = .ok (.iconst 4, 1) := by decide +kernel
theorem dX8_init_62 : decode cX8_init 62 = .ok (.iconst (-1), 1) := by decide +kernel
theorem dX8_init_63 : decode cX8_init 63 = .ok (.iastore, 1) := by decide +kernel
theorem dX8_init_64 : decode cX8_init 64 = .ok (.dup, 1) := by decide +kernel
theorem dX8_init_65 : decode cX8_init 65 = .ok (.iconst 5, 1) := by decide +kernel
theorem dX8_init_66 : decode cX8_init 66 = .ok (.iconst 0, 1) := by decide +kernel
theorem dX8_init_67 : decode cX8_init 67 = .ok (.iastore, 1) := by decide +kernel
theorem dX8_init_68 : decode cX8_init 68 = .ok (.putfield 28, 3) := by decide +kernel
theorem dX8_init_71 : decode cX8_init 71 = .ok (.aload_n 0, 1) := by decide +kernel
theorem dX8_init_72 : decode cX8_init 72 = .ok (.bipush 8, 2) := by decide +kernel
theorem dX8_init_74 : decode cX8_init 74 = .ok (.newarray .int, 2) := by decide +kernel
theorem dX8_init_76 : decode cX8_init 76 = .ok (.putfield 32, 3) := by decide +kernel
theorem dX8_init_79 : decode cX8_init 79 = .ok (.aload_n 0, 1) := by decide +kernel
theorem dX8_init_80 : decode cX8_init 80 = .ok (.bipush 120, 2) := by decide +kernel
theorem dX8_init_82 : decode cX8_init 82 = .ok (.newarray .int, 2) := by decide +kernel
theorem dX8_init_84 : decode cX8_init 84 = .ok (.putfield 35, 3) := by decide +kernel
theorem dX8_init_87 : decode cX8_init 87 = .ok (.aload_n 0, 1) := by decide +kernel
theorem dX8_init_88 : decode cX8_init 88 = .ok (.new 38, 3) := by decide +kernel
theorem dX8_init_91 : decode cX8_init 91 = .ok (.dup, 1) := by decide +kernel
theorem dX8_init_92 : decode cX8_init 92 = .ok (.invokespecial 40, 3) := by decide +kernel
theorem dX8_init_95 : decode cX8_init 95 = .ok (.putfield 41, 3) := by decide +kernel
theorem dX8_init_98 : decode cX8_init 98 = .ok (.aload_n 0, 1) := by decide +kernel
theorem dX8_init_99 : decode cX8_init 99 = .ok (.iconst 4, 1) := by decide +kernel
theorem dX8_init_100 : decode cX8_init 100 = .ok (.anewarray 45, 3) := by decide +kernel
theorem dX8_init_103 : decode cX8_init 103 = .ok (.putfield 47, 3) := by decide +kernel
theorem dX8_init_106 : decode cX8_init 106 = .ok (.aload_n 0, 1) := by decide +kernel
theorem dX8_init_107 : decode cX8_init 107 = .ok (.iconst (-1), 1) := by decide +kernel
theorem dX8_init_108 : decode cX8_init 108 = .ok (.putfield 51, 3) := by decide +kernel
theorem dX8_init_111 : decode cX8_init 111 = .ok (.aload_n 0, 1) := by decide +kernel
theorem dX8_init_112 : decode cX8_init 112 = .ok (.new 45, 3) := by decide +kernel
theorem dX8_init_115 : decode cX8_init 115 = .ok (.dup, 1) := by decide +kernel
theorem dX8_init_116 : decode cX8_init 116 = .ok (.invokespecial 55, 3) := by decide +kernel
theorem dX8_init_119 : decode cX8_init 119 = .ok (.putfield 56, 3) := by decide +kernel
theorem dX8_init_122 : decode cX8_init 122 = .ok (.aload_n 0, 1) := by decide +kernel
theorem dX8_init_123 : decode cX8_init 123 = .ok (.new 45, 3) := by decide +kernel
theorem dX8_init_126 : decode cX8_init 126 = .ok (.dup, 1) := by decide +kernel
theorem dX8_init_127 : decode cX8_init 127 = .ok (.invokespecial 55, 3) := by decide +kernel
theorem dX8_init_130 : decode cX8_init 130 = .ok (.putfield 60, 3) := by decide +kernel
theorem dX8_init_133 : decode cX8_init 133 = .ok (.aload_n 0, 1) := by decide +kernel
theorem dX8_init_134 : decode cX8_init 134 = .ok (.new 63, 3) := by decide +kernel
theorem dX8_init_137 : decode cX8_init 137 = .ok (.dup, 1) := by decide +kernel
theorem dX8_init_138 : decode cX8_init 138 = .ok (.invokespecial 65, 3) := by decide +kernel
theorem dX8_init_141 : decode cX8_init 141 = .ok (.putfield 66, 3) := by decide +kernel
theorem dX8_init_144 : decode cX8_init 144 = .ok (.aload_n 0, 1) := by decide +kernel
theorem dX8_init_145 : decode cX8_init 145 = .ok (.bipush 6, 2) := by decide +kernel
theorem dX8_init_147 : decode cX8_init 147 = .ok (.anewarray 70, 3) := by decide +kernel
theorem dX8_init_150 : decode cX8_init 150 = .ok (.putfield 72, 3) := by decide +kernel
theorem dX8_init_153 : decode cX8_init 153 = .ok (.iconst 0, 1) := by decide +kernel
theorem dX8_init_154 : decode cX8_init 154 = .ok (.istore_n 1, 1) := by decide +kernel
theorem dX8_init_155 : decode cX8_init 155 = .ok (.iload_n 1, 1) := by decide +kernel
theorem dX8_init_156 : decode cX8_init 156 = .ok (.iconst 4, 1) := by decide +kernel
theorem dX8_init_157 : decode cX8_init 157 = .ok (.if_icmp .ge 22, 3) := by decide +kernel
theorem dX8_init_160 : decode cX8_init 160 = .ok (.aload_n 0, 1) := by decide +kernel
theorem dX8_init_161 : decode cX8_init 161 = .ok (.getfield 47, 3) := by decide +kernel
theorem dX8_init_164 : decode cX8_init 164 = .ok (.iload_n 1, 1) := by decide +kernel
theorem dX8_init_165 : decode cX8_init 165 = .ok (.new 45, 3) := by decide +kernel
theorem dX8_init_168 : decode cX8_init 168 = .ok (.dup, 1) := by decide +kernel
theorem dX8_init_169 : decode cX8_init 169 = .ok (.invokespecial 55, 3) := by decide +kernel
theorem dX8_init_172 : decode cX8_init 172 = .ok (.aastore, 1) := by decide +kernel
theorem dX8_init_173 : decode cX8_init 173 = .ok (.iinc 1 1, 3) := by decide +kernel
theorem dX8_init_176 : decode cX8_init 176 = .ok (.goto (-21), 3) := by decide +kernel
theorem dX8_init_179 : decode cX8_init 179 = .ok (.iconst 0, 1) := by decide +kernel
theorem dX8_init_180 : decode cX8_init 180 = .ok (.istore_n 1, 1) := by decide +kernel
theorem dX8_init_181 : decode cX8_init 181 = .ok (.iload_n 1, 1) := by decide +kernel
theorem dX8_init_182 : decode cX8_init 182 = .ok (.bipush 6, 2) := by decide +kernel
theorem dX8_init_184 : decode cX8_init 184 = .ok (.if_icmp .ge 22, 3) := by decide +kernel
theorem dX8_init_187 : decode cX8_init 187 = .ok (.aload_n 0, 1) := by decide +kernel
theorem dX8_init_188 : decode cX8_init 188 = .ok (.getfield 72, 3) := by decide +kernel
theorem dX8_init_191 : decode cX8_init 191 = .ok (.iload_n 1, 1) := by decide +kernel
theorem dX8_init_192 : decode cX8_init 192 = .ok (.new 70, 3) := by decide +kernel
theorem dX8_init_195 : decode cX8_init 195 = .ok (.dup, 1) := by decide +kernel
theorem dX8_init_196 : decode cX8_init 196 = .ok (.invokespecial 76, 3) := by decide +kernel
theorem dX8_init_199 : decode cX8_init 199 = .ok (.aastore, 1) := by decide +kernel
theorem dX8_init_200 : decode cX8_init 200 = .ok (.iinc 1 1, 3) := by decide +kernel
theorem dX8_init_203 : decode cX8_init 203 = .ok (.goto (-22), 3) := by decide +kernel
theorem dX8_init_206 : decode cX8_init 206 = .ok (.return_, 1) := by decide +kernel
set_option maxRecDepth 20000 in
theorem ggX8_place_X3_addPlace : GoodIn wsX8_place wsX3_addPlace := goodIn_r _ [6, 7, 8, 9, 26, 27, 28, 29, 30, 31, 32, 33, 34, 35] rfl (by decide +kernel)
set_option maxRecDepth 20000 in
theorem gX8_place_X3_addPlace : GoodIn wsX8_place (wsV RX8 77 RX3 yX3_addPlace wsX3_addPlace) := goodIn_app (goodIn_of _ (by decide +kernel)) ggX8_place_X3_addPlace
theorem dX8_place_0 : decode cX8_place 0 = .ok (.iload_n 1, 1) := by decide +kernel
theorem dX8_place_1 : decode cX8_place 1 = .ok (.ifCond .lt 20, 3) := by decide +kernel
theorem dX8_place_4 : decode cX8_place 4 = .ok (.iload_n 1, 1) := by decide +kernel
theorem dX8_place_5 : decode cX8_place 5 = .ok (.bipush 10, 2) := by decide +kernel
theorem dX8_place_7 : decode cX8_place 7 = .ok (.idiv, 1) := by decide +kernel
theorem dX8_place_8 : decode cX8_place 8 = .ok (.bipush 9, 2) := by decide +kernel
theorem dX8_place_10 : decode cX8_place 10 = .ok (.if_icmp .gt 11, 3) := by decide +kernel
theorem dX8_place_13 : decode cX8_place 13 = .ok (.iload_n 1, 1) := by decide +kernel
theorem dX8_place_14 : decode cX8_place 14 = .ok (.bipush 10, 2) := by decide +kernel
theorem dX8_place_16 : decode cX8_place 16 = .ok (.irem, 1) := by decide +kernel
theorem dX8_place_17 : decode cX8_place 17 = .ok (.iconst 1, 1) := by decide +kernel
theorem dX8_place_18 : decode cX8_place 18 = .ok (.if_icmp .le 5, 3) := by decide +kernel
theorem dX8_place_21 : decode cX8_place 21 = .ok (.iconst (-1), 1) := by decide +kernel
theorem dX8_place_22 : decode cX8_place 22 = .ok (.ireturn, 1) := by decide +kernel
theorem dX8_place_23 : decode cX8_place 23 = .ok (.aload_n 0, 1) := by decide +kernel
theorem dX8_place_24 : decode cX8_place 24 = .ok (.getfield 20, 3) := by decide +kernel
theorem dX8_place_27 : decode cX8_place 27 = .ok (.iload_n 1, 1) := by decide +kernel
theorem dX8_place_28 : decode cX8_place 28 = .ok (.bipush 10, 2) := by decide +kernel
theorem dX8_place_30 : decode cX8_place 30 = .ok (.idiv, 1) := by decide +kernel
theorem dX8_place_31 : decode cX8_place 31 = .ok (.iload_n 1, 1) := by decide +kernel
theorem dX8_place_32 : decode cX8_place 32 = .ok (.bipush 10, 2) := by decide +kernel
theorem dX8_place_34 : decode cX8_place 34 = .ok (.irem, 1) := by decide +kernel
theorem dX8_place_35 : decode cX8_place 35 = .ok (.invokevirtual 77, 3) := by decide +kernel
theorem dX8_place_38 : decode cX8_place 38 = .ok (.ireturn, 1) := by decide +kernel
set_option maxRecDepth 20000 in
theorem ggX8_road_X3_addRoad : GoodIn wsX8_road wsX3_addRoad := goodIn_r _ [6, 7, 8, 9, 10, 11, 12, 13, 14, 15, 5, 16, 17, 18, 19, 20, 21, 38, 39, 40, 41, 42, 43, 44, 45, 46, 47] rfl (by decide +kernel)
set_option maxRecDepth 20000 in
theorem gX8_road_X3_addRoad : GoodIn wsX8_road (wsV RX8 83 RX3 yX3_addRoad wsX3_addRoad) := goodIn_app (goodIn_of _ (by decide +kernel)) ggX8_road_X3_addRoad
theorem dX8_road_0 : decode cX8_road 0 = .ok (.iload_n 3, 1) := by decide +kernel
theorem dX8_road_1 : decode cX8_road 1 = .ok (.ifCond .ge 5, 3) := by decide +kernel
theorem dX8_road_4 : decode cX8_road 4 = .ok (.iconst (-1), 1) := by decide +kernel
theorem dX8_road_5 : decode cX8_road 5 = .ok (.ireturn, 1) := by decide +kernel
theorem dX8_road_6 : decode cX8_road 6 = .ok (.aload_n 0, 1) := by decide +kernel
theorem dX8_road_7 : decode cX8_road 7 = .ok (.getfield 20, 3) := by decide +kernel
theorem dX8_road_10 : decode cX8_road 10 = .ok (.iload_n 1, 1) := by decide +kernel
theorem dX8_road_11 : decode cX8_road 11 = .ok (.iload_n 2, 1) := by decide +kernel
theorem dX8_road_12 : decode cX8_road 12 = .ok (.iload_n 3, 1) := by decide +kernel
theorem dX8_road_13 : decode cX8_road 13 = .ok (.bipush 100, 2) := by decide +kernel
theorem dX8_road_15 : decode cX8_road 15 = .ok (.idiv, 1) := by decide +kernel
theorem dX8_road_16 : decode cX8_road 16 = .ok (.iload_n 3, 1) := by decide +kernel
theorem dX8_road_17 : decode cX8_road 17 = .ok (.bipush 100, 2) := by decide +kernel
theorem dX8_road_19 : decode cX8_road 19 = .ok (.irem, 1) := by decide +kernel
theorem dX8_road_20 : decode cX8_road 20 = .ok (.invokevirtual 83, 3) := by decide +kernel
theorem dX8_road_23 : decode cX8_road 23 = .ok (.ireturn, 1) := by decide +kernel
set_option maxRecDepth 20000 in
theorem ggX8_roads_X8_shelfAt : GoodIn wsX8_roads wsX8_shelfAt := goodIn_r _ [6, 7, 53, 54, 55, 56, 57, 58, 59, 60, 61, 62, 63, 64, 65, 66, 67, 68] rfl (by decide +kernel)
set_option maxRecDepth 20000 in
theorem gX8_roads_X8_shelfAt : GoodIn wsX8_roads (wsV RX8 87 RX8 yX8_shelfAt wsX8_shelfAt) := goodIn_app (goodIn_of _ (by decide +kernel)) ggX8_roads_X8_shelfAt
set_option maxRecDepth 20000 in
theorem ggX8_roads_X5_holdsNothing : GoodIn wsX8_roads wsX5_holdsNothing := goodIn_r _ [12, 13, 69, 70, 71, 72] rfl (by decide +kernel)
set_option maxRecDepth 20000 in
theorem gX8_roads_X5_holdsNothing : GoodIn wsX8_roads (wsV RX8 91 RX5 yX5_holdsNothing wsX5_holdsNothing) := goodIn_app (goodIn_of _ (by decide +kernel)) ggX8_roads_X5_holdsNothing
set_option maxRecDepth 20000 in
theorem ggX8_roads_X5_holdsRowOf : GoodIn wsX8_roads wsX5_holdsRowOf := goodIn_r _ [17, 13, 18, 19, 20, 11, 21, 69, 70, 71, 72] rfl (by decide +kernel)
set_option maxRecDepth 20000 in
theorem gX8_roads_X5_holdsRowOf : GoodIn wsX8_roads (wsV RX8 95 RX5 yX5_holdsRowOf wsX5_holdsRowOf) := goodIn_app (goodIn_of _ (by decide +kernel)) ggX8_roads_X5_holdsRowOf
set_option maxRecDepth 20000 in
theorem ggX8_roads_X5_holdsCells : GoodIn wsX8_roads wsX5_holdsCells := goodIn_r _ [25, 26, 18, 19, 20, 11, 21, 13, 69, 70, 71, 72] rfl (by decide +kernel)
set_option maxRecDepth 20000 in
theorem gX8_roads_X5_holdsCells : GoodIn wsX8_roads (wsV RX8 99 RX5 yX5_holdsCells wsX5_holdsCells) := goodIn_app (goodIn_of _ (by decide +kernel)) ggX8_roads_X5_holdsCells
set_option maxRecDepth 20000 in
theorem ggX8_roads_X5_cell : GoodIn wsX8_roads wsX5_cell := goodIn_r _ [30, 31, 32, 23, 24, 11, 25, 26, 18, 19, 20, 21, 13, 69, 70, 71, 72] rfl (by decide +kernel)
set_option maxRecDepth 20000 in
theorem gX8_roads_X5_cell : GoodIn wsX8_roads (wsV RX8 103 RX5 yX5_cell wsX5_cell) := goodIn_app (goodIn_of _ (by decide +kernel)) ggX8_roads_X5_cell
set_option maxRecDepth 20000 in
theorem ggX8_roads_X3_addRoad : GoodIn wsX8_roads wsX3_addRoad := goodIn_r _ [37, 38, 39, 40, 41, 42, 43, 44, 45, 46, 36, 47, 48, 49, 50, 51, 52, 73, 74, 75, 76, 77, 78, 79, 80, 81, 82] rfl (by decide +kernel)
set_option maxRecDepth 20000 in
theorem gX8_roads_X3_addRoad : GoodIn wsX8_roads (wsV RX8 83 RX3 yX3_addRoad wsX3_addRoad) := goodIn_app (goodIn_of _ (by decide +kernel)) ggX8_roads_X3_addRoad
theorem dX8_roads_0 : decode cX8_roads 0 = .ok (.aload_n 0, 1) := by decide +kernel
theorem dX8_roads_1 : decode cX8_roads 1 = .ok (.iload_n 1, 1) := by decide +kernel
theorem dX8_roads_2 : decode cX8_roads 2 = .ok (.invokevirtual 87, 3) := by decide +kernel
theorem dX8_roads_5 : decode cX8_roads 5 = .ok (.astore 4, 2) := by decide +kernel
theorem dX8_roads_7 : decode cX8_roads 7 = .ok (.aload 4, 2) := by decide +kernel
theorem dX8_roads_9 : decode cX8_roads 9 = .ok (.ifnull 14, 3) := by decide +kernel
theorem dX8_roads_12 : decode cX8_roads 12 = .ok (.iload_n 3, 1) := by decide +kernel
theorem dX8_roads_13 : decode cX8_roads 13 = .ok (.iconst 1, 1) := by decide +kernel
theorem dX8_roads_14 : decode cX8_roads 14 = .ok (.if_icmp .lt 9, 3) := by decide +kernel
theorem dX8_roads_17 : decode cX8_roads 17 = .ok (.iload_n 3, 1) := by decide +kernel
theorem dX8_roads_18 : decode cX8_roads 18 = .ok (.bipush 15, 2) := by decide +kernel
theorem dX8_roads_20 : decode cX8_roads 20 = .ok (.if_icmp .le 5, 3) := by decide +kernel
theorem dX8_roads_23 : decode cX8_roads 23 = .ok (.iconst (-1), 1) := by decide +kernel
theorem dX8_roads_24 : decode cX8_roads 24 = .ok (.ireturn, 1) := by decide +kernel
theorem dX8_roads_25 : decode cX8_roads 25 = .ok (.aload 4, 2) := by decide +kernel
theorem dX8_roads_27 : decode cX8_roads 27 = .ok (.invokevirtual 91, 3) := by decide +kernel
theorem dX8_roads_30 : decode cX8_roads 30 = .ok (.ifCond .eq 5, 3) := by decide +kernel
theorem dX8_roads_33 : decode cX8_roads 33 = .ok (.iconst 0, 1) := by decide +kernel
theorem dX8_roads_34 : decode cX8_roads 34 = .ok (.ireturn, 1) := by decide +kernel
theorem dX8_roads_35 : decode cX8_roads 35 = .ok (.aload 4, 2) := by decide +kernel
theorem dX8_roads_37 : decode cX8_roads 37 = .ok (.iconst 1, 1) := by decide +kernel
theorem dX8_roads_38 : decode cX8_roads 38 = .ok (.invokevirtual 95, 3) := by decide +kernel
theorem dX8_roads_41 : decode cX8_roads 41 = .ok (.ifCond .ne 6, 3) := by decide +kernel
theorem dX8_roads_44 : decode cX8_roads 44 = .ok (.bipush (-12), 2) := by decide +kernel
theorem dX8_roads_46 : decode cX8_roads 46 = .ok (.ireturn, 1) := by decide +kernel
theorem dX8_roads_47 : decode cX8_roads 47 = .ok (.iconst 0, 1) := by decide +kernel
theorem dX8_roads_48 : decode cX8_roads 48 = .ok (.istore 5, 2) := by decide +kernel
theorem dX8_roads_50 : decode cX8_roads 50 = .ok (.iload_n 2, 1) := by decide +kernel
theorem dX8_roads_51 : decode cX8_roads 51 = .ok (.istore 6, 2) := by decide +kernel
theorem dX8_roads_53 : decode cX8_roads 53 = .ok (.iload 5, 2) := by decide +kernel
theorem dX8_roads_55 : decode cX8_roads 55 = .ok (.iload_n 3, 1) := by decide +kernel
theorem dX8_roads_56 : decode cX8_roads 56 = .ok (.if_icmp .ge 78, 3) := by decide +kernel
theorem dX8_roads_59 : decode cX8_roads 59 = .ok (.aload 4, 2) := by decide +kernel
theorem dX8_roads_61 : decode cX8_roads 61 = .ok (.iload 6, 2) := by decide +kernel
theorem dX8_roads_63 : decode cX8_roads 63 = .ok (.iconst 4, 1) := by decide +kernel
theorem dX8_roads_64 : decode cX8_roads 64 = .ok (.invokevirtual 99, 3) := by decide +kernel
theorem dX8_roads_67 : decode cX8_roads 67 = .ok (.ifCond .eq 67, 3) := by decide +kernel
theorem dX8_roads_70 : decode cX8_roads 70 = .ok (.aload_n 0, 1) := by decide +kernel
theorem dX8_roads_71 : decode cX8_roads 71 = .ok (.getfield 20, 3) := by decide +kernel
theorem dX8_roads_74 : decode cX8_roads 74 = .ok (.aload 4, 2) := by decide +kernel
theorem dX8_roads_76 : decode cX8_roads 76 = .ok (.iload 6, 2) := by decide +kernel
theorem dX8_roads_78 : decode cX8_roads 78 = .ok (.invokevirtual 103, 3) := by decide +kernel
theorem dX8_roads_81 : decode cX8_roads 81 = .ok (.l2i, 1) := by decide +kernel
theorem dX8_roads_82 : decode cX8_roads 82 = .ok (.aload 4, 2) := by decide +kernel
theorem dX8_roads_84 : decode cX8_roads 84 = .ok (.iload 6, 2) := by decide +kernel
theorem dX8_roads_86 : decode cX8_roads 86 = .ok (.iconst 1, 1) := by decide +kernel
theorem dX8_roads_87 : decode cX8_roads 87 = .ok (.iadd, 1) := by decide +kernel
theorem dX8_roads_88 : decode cX8_roads 88 = .ok (.invokevirtual 103, 3) := by decide +kernel
theorem dX8_roads_91 : decode cX8_roads 91 = .ok (.l2i, 1) := by decide +kernel
theorem dX8_roads_92 : decode cX8_roads 92 = .ok (.aload 4, 2) := by decide +kernel
theorem dX8_roads_94 : decode cX8_roads 94 = .ok (.iload 6, 2) := by decide +kernel
theorem dX8_roads_96 : decode cX8_roads 96 = .ok (.iconst 2, 1) := by decide +kernel
theorem dX8_roads_97 : decode cX8_roads 97 = .ok (.iadd, 1) := by decide +kernel
theorem dX8_roads_98 : decode cX8_roads 98 = .ok (.invokevirtual 103, 3) := by decide +kernel
theorem dX8_roads_101 : decode cX8_roads 101 = .ok (.l2i, 1) := by decide +kernel
theorem dX8_roads_102 : decode cX8_roads 102 = .ok (.aload 4, 2) := by decide +kernel
theorem dX8_roads_104 : decode cX8_roads 104 = .ok (.iload 6, 2) := by decide +kernel
theorem dX8_roads_106 : decode cX8_roads 106 = .ok (.iconst 3, 1) := by decide +kernel
theorem dX8_roads_107 : decode cX8_roads 107 = .ok (.iadd, 1) := by decide +kernel
theorem dX8_roads_108 : decode cX8_roads 108 = .ok (.invokevirtual 103, 3) := by decide +kernel
theorem dX8_roads_111 : decode cX8_roads 111 = .ok (.l2i, 1) := by decide +kernel
theorem dX8_roads_112 : decode cX8_roads 112 = .ok (.invokevirtual 83, 3) := by decide +kernel
theorem dX8_roads_115 : decode cX8_roads 115 = .ok (.istore 7, 2) := by decide +kernel
theorem dX8_roads_117 : decode cX8_roads 117 = .ok (.iload 7, 2) := by decide +kernel
theorem dX8_roads_119 : decode cX8_roads 119 = .ok (.ifCond .ge 6, 3) := by decide +kernel
theorem dX8_roads_122 : decode cX8_roads 122 = .ok (.goto 12, 3) := by decide +kernel
theorem dX8_roads_125 : decode cX8_roads 125 = .ok (.iinc 5 1, 3) := by decide +kernel
theorem dX8_roads_128 : decode cX8_roads 128 = .ok (.iinc 6 4, 3) := by decide +kernel
theorem dX8_roads_131 : decode cX8_roads 131 = .ok (.goto (-78), 3) := by decide +kernel
theorem dX8_roads_134 : decode cX8_roads 134 = .ok (.iload 5, 2) := by decide +kernel
theorem dX8_roads_136 : decode cX8_roads 136 = .ok (.ireturn, 1) := by decide +kernel
set_option maxRecDepth 20000 in
theorem ggX8_walk_X3_hasPair : GoodIn wsX8_walk wsX3_hasPair := goodIn_r _ [6, 7, 8, 9, 5, 10, 11, 37, 38, 39, 40, 41, 42, 43, 44, 45, 46] rfl (by decide +kernel)
set_option maxRecDepth 20000 in
theorem gX8_walk_X3_hasPair : GoodIn wsX8_walk (wsV RX8 107 RX3 yX3_hasPair wsX3_hasPair) := goodIn_app (goodIn_of _ (by decide +kernel)) ggX8_walk_X3_hasPair
set_option maxRecDepth 20000 in
theorem ggX8_walk_X3_onFoot : GoodIn wsX8_walk wsX3_onFoot := goodIn_r _ [15, 16, 7, 8, 9, 5, 10, 11, 37, 38, 39, 40, 41, 42, 43, 44, 45, 46] rfl (by decide +kernel)
set_option maxRecDepth 20000 in
theorem gX8_walk_X3_onFoot : GoodIn wsX8_walk (wsV RX8 110 RX3 yX3_onFoot wsX3_onFoot) := goodIn_app (goodIn_of _ (by decide +kernel)) ggX8_walk_X3_onFoot
set_option maxRecDepth 20000 in
theorem ggX8_walk_X3_setOnFoot : GoodIn wsX8_walk wsX3_setOnFoot := goodIn_r _ [20, 16, 7, 8, 9, 5, 10, 11, 37, 38, 39, 40, 41, 42, 43, 44, 45, 46] rfl (by decide +kernel)
set_option maxRecDepth 20000 in
theorem gX8_walk_X3_setOnFoot : GoodIn wsX8_walk (wsV RX8 113 RX3 yX3_setOnFoot wsX3_setOnFoot) := goodIn_app (goodIn_of _ (by decide +kernel)) ggX8_walk_X3_setOnFoot
theorem dX8_walk_0 : decode cX8_walk 0 = .ok (.aload_n 0, 1) := by decide +kernel
theorem dX8_walk_1 : decode cX8_walk 1 = .ok (.getfield 20, 3) := by decide +kernel
theorem dX8_walk_4 : decode cX8_walk 4 = .ok (.iload_n 1, 1) := by decide +kernel
theorem dX8_walk_5 : decode cX8_walk 5 = .ok (.invokevirtual 107, 3) := by decide +kernel
theorem dX8_walk_8 : decode cX8_walk 8 = .ok (.ifCond .eq 25, 3) := by decide +kernel
theorem dX8_walk_11 : decode cX8_walk 11 = .ok (.iload_n 1, 1) := by decide +kernel
theorem dX8_walk_12 : decode cX8_walk 12 = .ok (.bipush 10, 2) := by decide +kernel
theorem dX8_walk_14 : decode cX8_walk 14 = .ok (.idiv, 1) := by decide +kernel
theorem dX8_walk_15 : decode cX8_walk 15 = .ok (.iload_n 1, 1) := by decide +kernel
theorem dX8_walk_16 : decode cX8_walk 16 = .ok (.bipush 10, 2) := by decide +kernel
theorem dX8_walk_18 : decode cX8_walk 18 = .ok (.irem, 1) := by decide +kernel
theorem dX8_walk_19 : decode cX8_walk 19 = .ok (.if_icmp .eq 14, 3) := by decide +kernel
theorem dX8_walk_22 : decode cX8_walk 22 = .ok (.iload_n 2, 1) := by decide +kernel
theorem dX8_walk_23 : decode cX8_walk 23 = .ok (.ifCond .lt 10, 3) := by decide +kernel
theorem dX8_walk_26 : decode cX8_walk 26 = .ok (.iload_n 2, 1) := by decide +kernel
theorem dX8_walk_27 : decode cX8_walk 27 = .ok (.sipush 300, 3) := by decide +kernel
theorem dX8_walk_30 : decode cX8_walk 30 = .ok (.if_icmp .le 5, 3) := by decide +kernel
theorem dX8_walk_33 : decode cX8_walk 33 = .ok (.iconst (-1), 1) := by decide +kernel
theorem dX8_walk_34 : decode cX8_walk 34 = .ok (.ireturn, 1) := by decide +kernel
theorem dX8_walk_35 : decode cX8_walk 35 = .ok (.aload_n 0, 1) := by decide +kernel
theorem dX8_walk_36 : decode cX8_walk 36 = .ok (.getfield 20, 3) := by decide +kernel
theorem dX8_walk_39 : decode cX8_walk 39 = .ok (.iload_n 1, 1) := by decide +kernel
theorem dX8_walk_40 : decode cX8_walk 40 = .ok (.bipush 10, 2) := by decide +kernel
theorem dX8_walk_42 : decode cX8_walk 42 = .ok (.idiv, 1) := by decide +kernel
theorem dX8_walk_43 : decode cX8_walk 43 = .ok (.iload_n 1, 1) := by decide +kernel
theorem dX8_walk_44 : decode cX8_walk 44 = .ok (.bipush 10, 2) := by decide +kernel
theorem dX8_walk_46 : decode cX8_walk 46 = .ok (.irem, 1) := by decide +kernel
theorem dX8_walk_47 : decode cX8_walk 47 = .ok (.invokevirtual 110, 3) := by decide +kernel
theorem dX8_walk_50 : decode cX8_walk 50 = .ok (.istore_n 3, 1) := by decide +kernel
theorem dX8_walk_51 : decode cX8_walk 51 = .ok (.aload_n 0, 1) := by decide +kernel
theorem dX8_walk_52 : decode cX8_walk 52 = .ok (.getfield 20, 3) := by decide +kernel
theorem dX8_walk_55 : decode cX8_walk 55 = .ok (.iload_n 1, 1) := by decide +kernel
theorem dX8_walk_56 : decode cX8_walk 56 = .ok (.bipush 10, 2) := by decide +kernel
theorem dX8_walk_58 : decode cX8_walk 58 = .ok (.idiv, 1) := by decide +kernel
theorem dX8_walk_59 : decode cX8_walk 59 = .ok (.iload_n 1, 1) := by decide +kernel
theorem dX8_walk_60 : decode cX8_walk 60 = .ok (.bipush 10, 2) := by decide +kernel
theorem dX8_walk_62 : decode cX8_walk 62 = .ok (.irem, 1) := by decide +kernel
theorem dX8_walk_63 : decode cX8_walk 63 = .ok (.iload_n 2, 1) := by decide +kernel
theorem dX8_walk_64 : decode cX8_walk 64 = .ok (.invokevirtual 113, 3) := by decide +kernel
theorem dX8_walk_67 : decode cX8_walk 67 = .ok (.aload_n 0, 1) := by decide +kernel
theorem dX8_walk_68 : decode cX8_walk 68 = .ok (.getfield 20, 3) := by decide +kernel
theorem dX8_walk_71 : decode cX8_walk 71 = .ok (.iload_n 1, 1) := by decide +kernel
theorem dX8_walk_72 : decode cX8_walk 72 = .ok (.bipush 10, 2) := by decide +kernel
theorem dX8_walk_74 : decode cX8_walk 74 = .ok (.irem, 1) := by decide +kernel
theorem dX8_walk_75 : decode cX8_walk 75 = .ok (.iload_n 1, 1) := by decide +kernel
theorem dX8_walk_76 : decode cX8_walk 76 = .ok (.bipush 10, 2) := by decide +kernel
theorem dX8_walk_78 : decode cX8_walk 78 = .ok (.idiv, 1) := by decide +kernel
theorem dX8_walk_79 : decode cX8_walk 79 = .ok (.iload_n 2, 1) := by decide +kernel
theorem dX8_walk_80 : decode cX8_walk 80 = .ok (.invokevirtual 113, 3) := by decide +kernel
theorem dX8_walk_83 : decode cX8_walk 83 = .ok (.iload_n 3, 1) := by decide +kernel
theorem dX8_walk_84 : decode cX8_walk 84 = .ok (.ireturn, 1) := by decide +kernel
set_option maxRecDepth 20000 in
theorem ggX8_set_X8_maySet : GoodIn wsX8_set wsX8_maySet := goodIn_r _ [6, 7, 8, 5, 9] rfl (by decide +kernel)
set_option maxRecDepth 20000 in
theorem gX8_set_X8_maySet : GoodIn wsX8_set (va_wsS RX8 117 yX8_maySet wsX8_maySet) := goodIn_app (goodIn_of _ (by decide +kernel)) ggX8_set_X8_maySet
theorem dX8_set_0 : decode cX8_set 0 = .ok (.iload_n 1, 1) := by decide +kernel
theorem dX8_set_1 : decode cX8_set 1 = .ok (.iload_n 2, 1) := by decide +kernel
theorem dX8_set_2 : decode cX8_set 2 = .ok (.invokestatic 117, 3) := by decide +kernel
theorem dX8_set_5 : decode cX8_set 5 = .ok (.ifCond .ne 6, 3) := by decide +kernel
theorem dX8_set_8 : decode cX8_set 8 = .ok (.ldc 120, 2) := by decide +kernel
theorem dX8_set_10 : decode cX8_set 10 = .ok (.ireturn, 1) := by decide +kernel
theorem dX8_set_11 : decode cX8_set 11 = .ok (.aload_n 0, 1) := by decide +kernel
theorem dX8_set_12 : decode cX8_set 12 = .ok (.getfield 28, 3) := by decide +kernel
theorem dX8_set_15 : decode cX8_set 15 = .ok (.iload_n 1, 1) := by decide +kernel
theorem dX8_set_16 : decode cX8_set 16 = .ok (.iaload, 1) := by decide +kernel
theorem dX8_set_17 : decode cX8_set 17 = .ok (.istore_n 3, 1) := by decide +kernel
theorem dX8_set_18 : decode cX8_set 18 = .ok (.aload_n 0, 1) := by decide +kernel
theorem dX8_set_19 : decode cX8_set 19 = .ok (.getfield 28, 3) := by decide +kernel
theorem dX8_set_22 : decode cX8_set 22 = .ok (.iload_n 1, 1) := by decide +kernel
theorem dX8_set_23 : decode cX8_set 23 = .ok (.iload_n 2, 1) := by decide +kernel
theorem dX8_set_24 : decode cX8_set 24 = .ok (.iastore, 1) := by decide +kernel
theorem dX8_set_25 : decode cX8_set 25 = .ok (.iload_n 3, 1) := by decide +kernel
theorem dX8_set_26 : decode cX8_set 26 = .ok (.ireturn, 1) := by decide +kernel
set_option maxRecDepth 20000 in
theorem ggX8_mend_X3_mayBecome : GoodIn wsX8_mend wsX3_mayBecome := goodIn_r _ [7, 8, 9, 10, 6, 11, 12, 13, 14, 15, 16, 17, 77, 78, 79, 80, 81, 82, 83, 84, 85, 86] rfl (by decide +kernel)
set_option maxRecDepth 20000 in
theorem gX8_mend_X3_mayBecome : GoodIn wsX8_mend (wsV RX8 121 RX3 yX3_mayBecome wsX3_mayBecome) := goodIn_app (goodIn_of _ (by decide +kernel)) ggX8_mend_X3_mayBecome
set_option maxRecDepth 20000 in
theorem ggX8_mend_X3_valueOf : GoodIn wsX8_mend wsX3_valueOf := goodIn_r _ [21, 22, 23, 24, 6, 25, 26, 27, 28, 29, 30, 31, 32, 33, 34, 35, 36, 77, 78, 79, 80, 81, 82, 83, 84, 85, 86] rfl (by decide +kernel)
set_option maxRecDepth 20000 in
theorem gX8_mend_X3_valueOf : GoodIn wsX8_mend (wsV RX8 125 RX3 yX3_valueOf wsX3_valueOf) := goodIn_app (goodIn_of _ (by decide +kernel)) ggX8_mend_X3_valueOf
set_option maxRecDepth 20000 in
theorem ggX8_mend_X3_change : GoodIn wsX8_mend wsX3_change := goodIn_r _ [40, 26, 31, 36, 41, 4, 5, 6, 7, 8, 9, 10, 11, 12, 13, 14, 15, 16, 17, 77, 78, 79, 80, 81, 82, 83, 84, 85, 86] rfl (by decide +kernel)
set_option maxRecDepth 20000 in
theorem gX8_mend_X3_change : GoodIn wsX8_mend (wsV RX8 128 RX3 yX3_change wsX3_change) := goodIn_app (goodIn_of _ (by decide +kernel)) ggX8_mend_X3_change
set_option maxRecDepth 20000 in
theorem ggX8_mend_X1_note : GoodIn wsX8_mend wsX1_note := goodIn_r _ [46, 47, 48, 49, 50, 51, 52, 53, 54, 55, 45, 56, 57, 58, 59, 60, 87, 88, 89, 90, 91, 92] rfl (by decide +kernel)
set_option maxRecDepth 20000 in
theorem gX8_mend_X1_note : GoodIn wsX8_mend (wsV RX8 131 RX1 yX1_note wsX1_note) := goodIn_app (goodIn_of _ (by decide +kernel)) ggX8_mend_X1_note
theorem dX8_mend_0 : decode cX8_mend 0 = .ok (.aload_n 0, 1) := by decide +kernel
theorem dX8_mend_1 : decode cX8_mend 1 = .ok (.getfield 20, 3) := by decide +kernel
theorem dX8_mend_4 : decode cX8_mend 4 = .ok (.iload_n 1, 1) := by decide +kernel
theorem dX8_mend_5 : decode cX8_mend 5 = .ok (.iload_n 2, 1) := by decide +kernel
theorem dX8_mend_6 : decode cX8_mend 6 = .ok (.iload_n 3, 1) := by decide +kernel
theorem dX8_mend_7 : decode cX8_mend 7 = .ok (.invokevirtual 121, 3) := by decide +kernel
theorem dX8_mend_10 : decode cX8_mend 10 = .ok (.ifCond .ne 5, 3) := by decide +kernel
theorem dX8_mend_13 : decode cX8_mend 13 = .ok (.iconst (-1), 1) := by decide +kernel
theorem dX8_mend_14 : decode cX8_mend 14 = .ok (.ireturn, 1) := by decide +kernel
theorem dX8_mend_15 : decode cX8_mend 15 = .ok (.aload_n 0, 1) := by decide +kernel
theorem dX8_mend_16 : decode cX8_mend 16 = .ok (.getfield 20, 3) := by decide +kernel
theorem dX8_mend_19 : decode cX8_mend 19 = .ok (.iload_n 1, 1) := by decide +kernel
theorem dX8_mend_20 : decode cX8_mend 20 = .ok (.iload_n 2, 1) := by decide +kernel
theorem dX8_mend_21 : decode cX8_mend 21 = .ok (.invokevirtual 125, 3) := by decide +kernel
theorem dX8_mend_24 : decode cX8_mend 24 = .ok (.istore 4, 2) := by decide +kernel
theorem dX8_mend_26 : decode cX8_mend 26 = .ok (.iload_n 3, 1) := by decide +kernel
theorem dX8_mend_27 : decode cX8_mend 27 = .ok (.iload 4, 2) := by decide +kernel
theorem dX8_mend_29 : decode cX8_mend 29 = .ok (.if_icmp .eq 25, 3) := by decide +kernel
theorem dX8_mend_32 : decode cX8_mend 32 = .ok (.aload_n 0, 1) := by decide +kernel
theorem dX8_mend_33 : decode cX8_mend 33 = .ok (.getfield 20, 3) := by decide +kernel
theorem dX8_mend_36 : decode cX8_mend 36 = .ok (.iload_n 1, 1) := by decide +kernel
theorem dX8_mend_37 : decode cX8_mend 37 = .ok (.iload_n 2, 1) := by decide +kernel
theorem dX8_mend_38 : decode cX8_mend 38 = .ok (.iload_n 3, 1) := by decide +kernel
theorem dX8_mend_39 : decode cX8_mend 39 = .ok (.invokevirtual 128, 3) := by decide +kernel
theorem dX8_mend_42 : decode cX8_mend 42 = .ok (.aload_n 0, 1) := by decide +kernel
theorem dX8_mend_43 : decode cX8_mend 43 = .ok (.getfield 24, 3) := by decide +kernel
theorem dX8_mend_46 : decode cX8_mend 46 = .ok (.iload_n 1, 1) := by decide +kernel
theorem dX8_mend_47 : decode cX8_mend 47 = .ok (.iload_n 2, 1) := by decide +kernel
theorem dX8_mend_48 : decode cX8_mend 48 = .ok (.iload 4, 2) := by decide +kernel
theorem dX8_mend_50 : decode cX8_mend 50 = .ok (.iload_n 3, 1) := by decide +kernel
theorem dX8_mend_51 : decode cX8_mend 51 = .ok (.invokevirtual 131, 3) := by decide +kernel
theorem dX8_mend_54 : decode cX8_mend 54 = .ok (.iload 4, 2) := by decide +kernel
theorem dX8_mend_56 : decode cX8_mend 56 = .ok (.ireturn, 1) := by decide +kernel
set_option maxRecDepth 20000 in
theorem ggX8_of_X3_hasPlace : GoodIn wsX8_of wsX3_hasPlace := goodIn_r _ [6, 7, 69, 70, 71, 72, 73, 74, 75, 76, 77, 78] rfl (by decide +kernel)
set_option maxRecDepth 20000 in
theorem gX8_of_X3_hasPlace : GoodIn wsX8_of (wsV RX8 135 RX3 yX3_hasPlace wsX3_hasPlace) := goodIn_app (goodIn_of _ (by decide +kernel)) ggX8_of_X3_hasPlace
set_option maxRecDepth 20000 in
theorem ggX8_of_X3_roomOf : GoodIn wsX8_of wsX3_roomOf := goodIn_r _ [11, 12, 69, 70, 71, 72, 73, 74, 75, 76, 77, 78] rfl (by decide +kernel)
set_option maxRecDepth 20000 in
theorem gX8_of_X3_roomOf : GoodIn wsX8_of (wsV RX8 138 RX3 yX3_roomOf wsX3_roomOf) := goodIn_app (goodIn_of _ (by decide +kernel)) ggX8_of_X3_roomOf
set_option maxRecDepth 20000 in
theorem ggX8_of_X3_pumpsOf : GoodIn wsX8_of wsX3_pumpsOf := goodIn_r _ [16, 17, 69, 70, 71, 72, 73, 74, 75, 76, 77, 78] rfl (by decide +kernel)
set_option maxRecDepth 20000 in
theorem gX8_of_X3_pumpsOf : GoodIn wsX8_of (wsV RX8 142 RX3 yX3_pumpsOf wsX3_pumpsOf) := goodIn_app (goodIn_of _ (by decide +kernel)) ggX8_of_X3_pumpsOf
set_option maxRecDepth 20000 in
theorem ggX8_of_X3_hasRoad : GoodIn wsX8_of wsX3_hasRoad := goodIn_r _ [21, 22, 69, 70, 71, 72, 73, 74, 75, 76, 77, 78] rfl (by decide +kernel)
set_option maxRecDepth 20000 in
theorem gX8_of_X3_hasRoad : GoodIn wsX8_of (wsV RX8 145 RX3 yX3_hasRoad wsX3_hasRoad) := goodIn_app (goodIn_of _ (by decide +kernel)) ggX8_of_X3_hasRoad
set_option maxRecDepth 20000 in
theorem ggX8_of_X3_startOf : GoodIn wsX8_of wsX3_startOf := goodIn_r _ [26, 27, 69, 70, 71, 72, 73, 74, 75, 76, 77, 78] rfl (by decide +kernel)
set_option maxRecDepth 20000 in
theorem gX8_of_X3_startOf : GoodIn wsX8_of (wsV RX8 148 RX3 yX3_startOf wsX3_startOf) := goodIn_app (goodIn_of _ (by decide +kernel)) ggX8_of_X3_startOf
set_option maxRecDepth 20000 in
theorem ggX8_of_X3_endOf : GoodIn wsX8_of wsX3_endOf := goodIn_r _ [31, 32, 69, 70, 71, 72, 73, 74, 75, 76, 77, 78] rfl (by decide +kernel)
set_option maxRecDepth 20000 in
theorem gX8_of_X3_endOf : GoodIn wsX8_of (wsV RX8 151 RX3 yX3_endOf wsX3_endOf) := goodIn_app (goodIn_of _ (by decide +kernel)) ggX8_of_X3_endOf
set_option maxRecDepth 20000 in
theorem ggX8_of_X3_flowOf : GoodIn wsX8_of wsX3_flowOf := goodIn_r _ [36, 37, 69, 70, 71, 72, 73, 74, 75, 76, 77, 78] rfl (by decide +kernel)
set_option maxRecDepth 20000 in
theorem gX8_of_X3_flowOf : GoodIn wsX8_of (wsV RX8 154 RX3 yX3_flowOf wsX3_flowOf) := goodIn_app (goodIn_of _ (by decide +kernel)) ggX8_of_X3_flowOf
set_option maxRecDepth 20000 in
theorem ggX8_of_X3_minutesOf : GoodIn wsX8_of wsX3_minutesOf := goodIn_r _ [41, 42, 69, 70, 71, 72, 73, 74, 75, 76, 77, 78] rfl (by decide +kernel)
set_option maxRecDepth 20000 in
theorem gX8_of_X3_minutesOf : GoodIn wsX8_of (wsV RX8 157 RX3 yX3_minutesOf wsX3_minutesOf) := goodIn_app (goodIn_of _ (by decide +kernel)) ggX8_of_X3_minutesOf
set_option maxRecDepth 20000 in
theorem ggX8_of_X3_dangerOf : GoodIn wsX8_of wsX3_dangerOf := goodIn_r _ [46, 47, 69, 70, 71, 72, 73, 74, 75, 76, 77, 78] rfl (by decide +kernel)
set_option maxRecDepth 20000 in
theorem gX8_of_X3_dangerOf : GoodIn wsX8_of (wsV RX8 160 RX3 yX3_dangerOf wsX3_dangerOf) := goodIn_app (goodIn_of _ (by decide +kernel)) ggX8_of_X3_dangerOf
set_option maxRecDepth 20000 in
theorem ggX8_of_X3_cars : GoodIn wsX8_of wsX3_cars := goodIn_r _ [51, 52, 34, 35, 5, 36, 37, 69, 70, 71, 72, 73, 74, 75, 76, 77, 78] rfl (by decide +kernel)
set_option maxRecDepth 20000 in
theorem gX8_of_X3_cars : GoodIn wsX8_of (wsV RX8 163 RX3 yX3_cars wsX3_cars) := goodIn_app (goodIn_of _ (by decide +kernel)) ggX8_of_X3_cars
theorem dX8_of_0 : decode cX8_of 0 = .ok (.iload_n 2, 1) := by decide +kernel
theorem dX8_of_1 : decode cX8_of 1 = .ok (.ifCond .lt 43, 3) := by decide +kernel
theorem dX8_of_4 : decode cX8_of 4 = .ok (.iload_n 2, 1) := by decide +kernel
theorem dX8_of_5 : decode cX8_of 5 = .ok (.iconst 1, 1) := by decide +kernel
theorem dX8_of_6 : decode cX8_of 6 = .ok (.if_icmp .gt 38, 3) := by decide +kernel
theorem dX8_of_9 : decode cX8_of 9 = .ok (.aload_n 0, 1) := by decide +kernel
theorem dX8_of_10 : decode cX8_of 10 = .ok (.getfield 20, 3) := by decide +kernel
theorem dX8_of_13 : decode cX8_of 13 = .ok (.iload_n 1, 1) := by decide +kernel
theorem dX8_of_14 : decode cX8_of 14 = .ok (.invokevirtual 135, 3) := by decide +kernel
theorem dX8_of_17 : decode cX8_of 17 = .ok (.ifCond .eq 27, 3) := by decide +kernel
theorem dX8_of_20 : decode cX8_of 20 = .ok (.iload_n 2, 1) := by decide +kernel
theorem dX8_of_21 : decode cX8_of 21 = .ok (.ifCond .ne 14, 3) := by decide +kernel
theorem dX8_of_24 : decode cX8_of 24 = .ok (.aload_n 0, 1) := by decide +kernel
theorem dX8_of_25 : decode cX8_of 25 = .ok (.getfield 20, 3) := by decide +kernel
theorem dX8_of_28 : decode cX8_of 28 = .ok (.iload_n 1, 1) := by decide +kernel
theorem dX8_of_29 : decode cX8_of 29 = .ok (.invokevirtual 138, 3) := by decide +kernel
theorem dX8_of_32 : decode cX8_of 32 = .ok (.goto 11, 3) := by decide +kernel
theorem dX8_of_35 : decode cX8_of 35 = .ok (.aload_n 0, 1) := by decide +kernel
theorem dX8_of_36 : decode cX8_of 36 = .ok (.getfield 20, 3) := by decide +kernel
theorem dX8_of_39 : decode cX8_of 39 = .ok (.iload_n 1, 1) := by decide +kernel
theorem dX8_of_40 : decode cX8_of 40 = .ok (.invokevirtual 142, 3) := by decide +kernel
theorem dX8_of_43 : decode cX8_of 43 = .ok (.ireturn, 1) := by decide +kernel
theorem dX8_of_44 : decode cX8_of 44 = .ok (.aload_n 0, 1) := by decide +kernel
theorem dX8_of_45 : decode cX8_of 45 = .ok (.getfield 20, 3) := by decide +kernel
theorem dX8_of_48 : decode cX8_of 48 = .ok (.iload_n 1, 1) := by decide +kernel
theorem dX8_of_49 : decode cX8_of 49 = .ok (.invokevirtual 145, 3) := by decide +kernel
theorem dX8_of_52 : decode cX8_of 52 = .ok (.ifCond .ne 5, 3) := by decide +kernel
theorem dX8_of_55 : decode cX8_of 55 = .ok (.iconst (-1), 1) := by decide +kernel
theorem dX8_of_56 : decode cX8_of 56 = .ok (.ireturn, 1) := by decide +kernel
theorem dX8_of_57 : decode cX8_of 57 = .ok (.iload_n 2, 1) := by decide +kernel
theorem dX8_of_58 : decode cX8_of 58 = .ok (.tableswitch 91 10 14 #[34, 55, 64, 73, 82], 34) := by decide +kernel
theorem dX8_of_92 : decode cX8_of 92 = .ok (.bipush 10, 2) := by decide +kernel
theorem dX8_of_94 : decode cX8_of 94 = .ok (.aload_n 0, 1) := by decide +kernel
theorem dX8_of_95 : decode cX8_of 95 = .ok (.getfield 20, 3) := by decide +kernel
theorem dX8_of_98 : decode cX8_of 98 = .ok (.iload_n 1, 1) := by decide +kernel
theorem dX8_of_99 : decode cX8_of 99 = .ok (.invokevirtual 148, 3) := by decide +kernel
theorem dX8_of_102 : decode cX8_of 102 = .ok (.imul, 1) := by decide +kernel
theorem dX8_of_103 : decode cX8_of 103 = .ok (.aload_n 0, 1) := by decide +kernel
theorem dX8_of_104 : decode cX8_of 104 = .ok (.getfield 20, 3) := by decide +kernel
theorem dX8_of_107 : decode cX8_of 107 = .ok (.iload_n 1, 1) := by decide +kernel
theorem dX8_of_108 : decode cX8_of 108 = .ok (.invokevirtual 151, 3) := by decide +kernel
theorem dX8_of_111 : decode cX8_of 111 = .ok (.iadd, 1) := by decide +kernel
theorem dX8_of_112 : decode cX8_of 112 = .ok (.ireturn, 1) := by decide +kernel
theorem dX8_of_113 : decode cX8_of 113 = .ok (.aload_n 0, 1) := by decide +kernel
theorem dX8_of_114 : decode cX8_of 114 = .ok (.getfield 20, 3) := by decide +kernel
theorem dX8_of_117 : decode cX8_of 117 = .ok (.iload_n 1, 1) := by decide +kernel
theorem dX8_of_118 : decode cX8_of 118 = .ok (.invokevirtual 154, 3) := by decide +kernel
theorem dX8_of_121 : decode cX8_of 121 = .ok (.ireturn, 1) := by decide +kernel
theorem dX8_of_122 : decode cX8_of 122 = .ok (.aload_n 0, 1) := by decide +kernel
theorem dX8_of_123 : decode cX8_of 123 = .ok (.getfield 20, 3) := by decide +kernel
theorem dX8_of_126 : decode cX8_of 126 = .ok (.iload_n 1, 1) := by decide +kernel
theorem dX8_of_127 : decode cX8_of 127 = .ok (.invokevirtual 157, 3) := by decide +kernel
theorem dX8_of_130 : decode cX8_of 130 = .ok (.ireturn, 1) := by decide +kernel
theorem dX8_of_131 : decode cX8_of 131 = .ok (.aload_n 0, 1) := by decide +kernel
theorem dX8_of_132 : decode cX8_of 132 = .ok (.getfield 20, 3) := by decide +kernel
theorem dX8_of_135 : decode cX8_of 135 = .ok (.iload_n 1, 1) := by decide +kernel
theorem dX8_of_136 : decode cX8_of 136 = .ok (.invokevirtual 160, 3) := by decide +kernel
theorem dX8_of_139 : decode cX8_of 139 = .ok (.ireturn, 1) := by decide +kernel
theorem dX8_of_140 : decode cX8_of 140 = .ok (.aload_n 0, 1) := by decide +kernel
theorem dX8_of_141 : decode cX8_of 141 = .ok (.getfield 20, 3) := by decide +kernel
theorem dX8_of_144 : decode cX8_of 144 = .ok (.iload_n 1, 1) := by decide +kernel
theorem dX8_of_145 : decode cX8_of 145 = .ok (.invokevirtual 163, 3) := by decide +kernel
theorem dX8_of_148 : decode cX8_of 148 = .ok (.ireturn, 1) := by decide +kernel
theorem dX8_of_149 : decode cX8_of 149 = .ok (.iconst (-1), 1) := by decide +kernel
theorem dX8_of_150 : decode cX8_of 150 = .ok (.ireturn, 1) := by decide +kernel
theorem dX8_feed_0 : decode cX8_feed 0 = .ok (.iload_n 1, 1) := by decide +kernel
theorem dX8_feed_1 : decode cX8_feed 1 = .ok (.ifCond .lt 10, 3) := by decide +kernel
theorem dX8_feed_4 : decode cX8_feed 4 = .ok (.iload_n 1, 1) := by decide +kernel
theorem dX8_feed_5 : decode cX8_feed 5 = .ok (.sipush 255, 3) := by decide +kernel
theorem dX8_feed_8 : decode cX8_feed 8 = .ok (.if_icmp .le 5, 3) := by decide +kernel
theorem dX8_feed_11 : decode cX8_feed 11 = .ok (.iconst (-1), 1) := by decide +kernel
theorem dX8_feed_12 : decode cX8_feed 12 = .ok (.ireturn, 1) := by decide +kernel
theorem dX8_feed_13 : decode cX8_feed 13 = .ok (.aload_n 0, 1) := by decide +kernel
theorem dX8_feed_14 : decode cX8_feed 14 = .ok (.getfield 166, 3) := by decide +kernel
theorem dX8_feed_17 : decode cX8_feed 17 = .ok (.ifCond .lt 12, 3) := by decide +kernel
theorem dX8_feed_20 : decode cX8_feed 20 = .ok (.aload_n 0, 1) := by decide +kernel
theorem dX8_feed_21 : decode cX8_feed 21 = .ok (.getfield 166, 3) := by decide +kernel
theorem dX8_feed_24 : decode cX8_feed 24 = .ok (.bipush 120, 2) := by decide +kernel
theorem dX8_feed_26 : decode cX8_feed 26 = .ok (.if_icmp .lt 6, 3) := by decide +kernel
theorem dX8_feed_29 : decode cX8_feed 29 = .ok (.bipush (-3), 2) := by decide +kernel
theorem dX8_feed_31 : decode cX8_feed 31 = .ok (.ireturn, 1) := by decide +kernel
theorem dX8_feed_32 : decode cX8_feed 32 = .ok (.aload_n 0, 1) := by decide +kernel
theorem dX8_feed_33 : decode cX8_feed 33 = .ok (.getfield 35, 3) := by decide +kernel
theorem dX8_feed_36 : decode cX8_feed 36 = .ok (.aload_n 0, 1) := by decide +kernel
theorem dX8_feed_37 : decode cX8_feed 37 = .ok (.getfield 166, 3) := by decide +kernel
theorem dX8_feed_40 : decode cX8_feed 40 = .ok (.iload_n 1, 1) := by decide +kernel
theorem dX8_feed_41 : decode cX8_feed 41 = .ok (.iastore, 1) := by decide +kernel
theorem dX8_feed_42 : decode cX8_feed 42 = .ok (.aload_n 0, 1) := by decide +kernel
theorem dX8_feed_43 : decode cX8_feed 43 = .ok (.dup, 1) := by decide +kernel
theorem dX8_feed_44 : decode cX8_feed 44 = .ok (.getfield 166, 3) := by decide +kernel
theorem dX8_feed_47 : decode cX8_feed 47 = .ok (.iconst 1, 1) := by decide +kernel
theorem dX8_feed_48 : decode cX8_feed 48 = .ok (.iadd, 1) := by decide +kernel
theorem dX8_feed_49 : decode cX8_feed 49 = .ok (.putfield 166, 3) := by decide +kernel
theorem dX8_feed_52 : decode cX8_feed 52 = .ok (.aload_n 0, 1) := by decide +kernel
theorem dX8_feed_53 : decode cX8_feed 53 = .ok (.getfield 166, 3) := by decide +kernel
theorem dX8_feed_56 : decode cX8_feed 56 = .ok (.ireturn, 1) := by decide +kernel
set_option maxRecDepth 20000 in
theorem ggX8_law_X8_readTape : GoodIn wsX8_law wsX8_readTape := goodIn_r _ [8, 9, 10, 11, 2, 12, 13, 14, 15, 16, 17, 18, 19, 20, 21, 22, 23, 24, 25, 26, 27, 28, 29, 30, 31, 32, 33, 34, 35, 36, 37, 38, 39, 40, 41, 42, 43, 44, 45, 46, 47, 48, 49, 50, 51, 52, 53, 54, 55, 56, 57, 58, 59, 60, 61, 62, 63, 64, 65, 66, 67, 68, 69, 70, 71, 72, 73, 74, 75, 76, 77, 78, 79, 80, 81, 82, 83, 84, 85, 86, 87, 88, 89, 90, 91, 92, 93, 94, 95, 96, 97, 98, 99, 100, 101, 102, 103, 104, 105, 106, 107, 108, 109, 110, 111, 112, 113, 114, 115, 116, 117, 118, 119, 120, 121, 122, 123, 124, 125, 126, 127, 128, 129, 130, 131, 132, 133, 134, 135, 136, 137, 138, 139, 140, 141, 142, 143, 144, 145, 146, 147, 148, 149, 150, 151, 152, 153, 154, 155, 156, 157, 158, 159, 160, 161, 162, 163, 164, 165, 166, 167, 168, 169, 170, 171, 172, 173, 174, 175, 176, 177, 178, 179, 180, 181, 182, 183] rfl (by decide +kernel)
set_option maxRecDepth 20000 in
theorem gX8_law_X8_readTape : GoodIn wsX8_law (wsV RX8 172 RX8 yX8_readTape wsX8_readTape) := goodIn_app (goodIn_of _ (by decide +kernel)) ggX8_law_X8_readTape
theorem dX8_law_0 : decode cX8_law 0 = .ok (.aload_n 0, 1) := by decide +kernel
theorem dX8_law_1 : decode cX8_law 1 = .ok (.getfield 169, 3) := by decide +kernel
theorem dX8_law_4 : decode cX8_law 4 = .ok (.ifCond .lt 11, 3) := by decide +kernel
theorem dX8_law_7 : decode cX8_law 7 = .ok (.aload_n 0, 1) := by decide +kernel
theorem dX8_law_8 : decode cX8_law 8 = .ok (.getfield 169, 3) := by decide +kernel
theorem dX8_law_11 : decode cX8_law 11 = .ok (.iconst 4, 1) := by decide +kernel
theorem dX8_law_12 : decode cX8_law 12 = .ok (.if_icmp .lt 6, 3) := by decide +kernel
theorem dX8_law_15 : decode cX8_law 15 = .ok (.bipush (-3), 2) := by decide +kernel
theorem dX8_law_17 : decode cX8_law 17 = .ok (.ireturn, 1) := by decide +kernel
theorem dX8_law_18 : decode cX8_law 18 = .ok (.aload_n 0, 1) := by decide +kernel
theorem dX8_law_19 : decode cX8_law 19 = .ok (.invokevirtual 172, 3) := by decide +kernel
theorem dX8_law_22 : decode cX8_law 22 = .ok (.istore_n 1, 1) := by decide +kernel
theorem dX8_law_23 : decode cX8_law 23 = .ok (.iload_n 1, 1) := by decide +kernel
theorem dX8_law_24 : decode cX8_law 24 = .ok (.iconst (-1), 1) := by decide +kernel
theorem dX8_law_25 : decode cX8_law 25 = .ok (.if_icmp .eq 8, 3) := by decide +kernel
theorem dX8_law_28 : decode cX8_law 28 = .ok (.bipush (-100), 2) := by decide +kernel
theorem dX8_law_30 : decode cX8_law 30 = .ok (.iload_n 1, 1) := by decide +kernel
theorem dX8_law_31 : decode cX8_law 31 = .ok (.isub, 1) := by decide +kernel
theorem dX8_law_32 : decode cX8_law 32 = .ok (.ireturn, 1) := by decide +kernel
theorem dX8_law_33 : decode cX8_law 33 = .ok (.aload_n 0, 1) := by decide +kernel
theorem dX8_law_34 : decode cX8_law 34 = .ok (.getfield 60, 3) := by decide +kernel
theorem dX8_law_37 : decode cX8_law 37 = .ok (.astore_n 2, 1) := by decide +kernel
theorem dX8_law_38 : decode cX8_law 38 = .ok (.aload_n 0, 1) := by decide +kernel
theorem dX8_law_39 : decode cX8_law 39 = .ok (.aload_n 0, 1) := by decide +kernel
theorem dX8_law_40 : decode cX8_law 40 = .ok (.getfield 47, 3) := by decide +kernel
theorem dX8_law_43 : decode cX8_law 43 = .ok (.aload_n 0, 1) := by decide +kernel
theorem dX8_law_44 : decode cX8_law 44 = .ok (.getfield 169, 3) := by decide +kernel
theorem dX8_law_47 : decode cX8_law 47 = .ok (.aaload, 1) := by decide +kernel
theorem dX8_law_48 : decode cX8_law 48 = .ok (.putfield 60, 3) := by decide +kernel
theorem dX8_law_51 : decode cX8_law 51 = .ok (.aload_n 0, 1) := by decide +kernel
theorem dX8_law_52 : decode cX8_law 52 = .ok (.getfield 47, 3) := by decide +kernel
theorem dX8_law_55 : decode cX8_law 55 = .ok (.aload_n 0, 1) := by decide +kernel
theorem dX8_law_56 : decode cX8_law 56 = .ok (.getfield 169, 3) := by decide +kernel
theorem dX8_law_59 : decode cX8_law 59 = .ok (.aload_n 2, 1) := by decide +kernel
theorem dX8_law_60 : decode cX8_law 60 = .ok (.aastore, 1) := by decide +kernel
theorem dX8_law_61 : decode cX8_law 61 = .ok (.aload_n 0, 1) := by decide +kernel
theorem dX8_law_62 : decode cX8_law 62 = .ok (.dup, 1) := by decide +kernel
theorem dX8_law_63 : decode cX8_law 63 = .ok (.getfield 169, 3) := by decide +kernel
theorem dX8_law_66 : decode cX8_law 66 = .ok (.iconst 1, 1) := by decide +kernel
theorem dX8_law_67 : decode cX8_law 67 = .ok (.iadd, 1) := by decide +kernel
theorem dX8_law_68 : decode cX8_law 68 = .ok (.putfield 169, 3) := by decide +kernel
theorem dX8_law_71 : decode cX8_law 71 = .ok (.aload_n 0, 1) := by decide +kernel
theorem dX8_law_72 : decode cX8_law 72 = .ok (.getfield 169, 3) := by decide +kernel
theorem dX8_law_75 : decode cX8_law 75 = .ok (.iconst 1, 1) := by decide +kernel
theorem dX8_law_76 : decode cX8_law 76 = .ok (.isub, 1) := by decide +kernel
theorem dX8_law_77 : decode cX8_law 77 = .ok (.ireturn, 1) := by decide +kernel
set_option maxRecDepth 20000 in
theorem ggX8_rule_X8_readTape : GoodIn wsX8_rule wsX8_readTape := goodIn_r _ [8, 9, 10, 11, 1, 12, 13, 14, 15, 16, 17, 18, 19, 20, 21, 22, 23, 24, 25, 26, 27, 28, 29, 30, 31, 32, 33, 34, 35, 36, 37, 38, 39, 40, 41, 42, 43, 44, 45, 46, 47, 48, 49, 50, 51, 52, 53, 54, 55, 56, 57, 58, 59, 60, 61, 62, 63, 64, 65, 66, 67, 68, 69, 70, 71, 72, 73, 74, 75, 76, 77, 78, 79, 80, 81, 82, 83, 84, 85, 86, 87, 88, 89, 90, 91, 92, 93, 94, 95, 96, 97, 98, 99, 100, 101, 102, 103, 104, 105, 106, 107, 108, 109, 110, 111, 112, 113, 114, 115, 116, 117, 118, 119, 120, 121, 122, 123, 124, 125, 126, 127, 128, 129, 130, 131, 132, 133, 134, 135, 136, 137, 138, 139, 140, 141, 142, 143, 144, 145, 146, 147, 148, 149, 150, 151, 152, 153, 154, 155, 156, 157, 158, 159, 160, 161, 162, 163, 164, 165, 166, 167, 168, 169, 170, 171, 172, 173, 174, 175, 176, 177, 178, 179, 180, 181, 182, 183] rfl (by decide +kernel)
set_option maxRecDepth 20000 in
theorem gX8_rule_X8_readTape : GoodIn wsX8_rule (wsV RX8 172 RX8 yX8_readTape wsX8_readTape) := goodIn_app (goodIn_of _ (by decide +kernel)) ggX8_rule_X8_readTape
theorem dX8_rule_0 : decode cX8_rule 0 = .ok (.aload_n 0, 1) := by decide +kernel
theorem dX8_rule_1 : decode cX8_rule 1 = .ok (.invokevirtual 172, 3) := by decide +kernel
theorem dX8_rule_4 : decode cX8_rule 4 = .ok (.istore_n 1, 1) := by decide +kernel
theorem dX8_rule_5 : decode cX8_rule 5 = .ok (.iload_n 1, 1) := by decide +kernel
theorem dX8_rule_6 : decode cX8_rule 6 = .ok (.iconst (-1), 1) := by decide +kernel
theorem dX8_rule_7 : decode cX8_rule 7 = .ok (.if_icmp .eq 8, 3) := by decide +kernel
theorem dX8_rule_10 : decode cX8_rule 10 = .ok (.bipush (-100), 2) := by decide +kernel
theorem dX8_rule_12 : decode cX8_rule 12 = .ok (.iload_n 1, 1) := by decide +kernel
theorem dX8_rule_13 : decode cX8_rule 13 = .ok (.isub, 1) := by decide +kernel
theorem dX8_rule_14 : decode cX8_rule 14 = .ok (.ireturn, 1) := by decide +kernel
theorem dX8_rule_15 : decode cX8_rule 15 = .ok (.aload_n 0, 1) := by decide +kernel
theorem dX8_rule_16 : decode cX8_rule 16 = .ok (.getfield 60, 3) := by decide +kernel
theorem dX8_rule_19 : decode cX8_rule 19 = .ok (.astore_n 2, 1) := by decide +kernel
theorem dX8_rule_20 : decode cX8_rule 20 = .ok (.aload_n 0, 1) := by decide +kernel
theorem dX8_rule_21 : decode cX8_rule 21 = .ok (.aload_n 0, 1) := by decide +kernel
theorem dX8_rule_22 : decode cX8_rule 22 = .ok (.getfield 56, 3) := by decide +kernel
theorem dX8_rule_25 : decode cX8_rule 25 = .ok (.putfield 60, 3) := by decide +kernel
theorem dX8_rule_28 : decode cX8_rule 28 = .ok (.aload_n 0, 1) := by decide +kernel
theorem dX8_rule_29 : decode cX8_rule 29 = .ok (.aload_n 2, 1) := by decide +kernel
theorem dX8_rule_30 : decode cX8_rule 30 = .ok (.putfield 56, 3) := by decide +kernel
theorem dX8_rule_33 : decode cX8_rule 33 = .ok (.aload_n 0, 1) := by decide +kernel
theorem dX8_rule_34 : decode cX8_rule 34 = .ok (.iconst 1, 1) := by decide +kernel
theorem dX8_rule_35 : decode cX8_rule 35 = .ok (.putfield 176, 3) := by decide +kernel
theorem dX8_rule_38 : decode cX8_rule 38 = .ok (.iconst 1, 1) := by decide +kernel
theorem dX8_rule_39 : decode cX8_rule 39 = .ok (.ireturn, 1) := by decide +kernel
theorem dX8_force_0 : decode cX8_force 0 = .ok (.iload_n 1, 1) := by decide +kernel
theorem dX8_force_1 : decode cX8_force 1 = .ok (.iconst (-1), 1) := by decide +kernel
theorem dX8_force_2 : decode cX8_force 2 = .ok (.if_icmp .lt 11, 3) := by decide +kernel
theorem dX8_force_5 : decode cX8_force 5 = .ok (.iload_n 1, 1) := by decide +kernel
theorem dX8_force_6 : decode cX8_force 6 = .ok (.aload_n 0, 1) := by decide +kernel
theorem dX8_force_7 : decode cX8_force 7 = .ok (.getfield 169, 3) := by decide +kernel
theorem dX8_force_10 : decode cX8_force 10 = .ok (.if_icmp .lt 6, 3) := by decide +kernel
theorem dX8_force_13 : decode cX8_force 13 = .ok (.ldc 120, 2) := by decide +kernel
theorem dX8_force_15 : decode cX8_force 15 = .ok (.ireturn, 1) := by decide +kernel
theorem dX8_force_16 : decode cX8_force 16 = .ok (.aload_n 0, 1) := by decide +kernel
theorem dX8_force_17 : decode cX8_force 17 = .ok (.getfield 51, 3) := by decide +kernel
theorem dX8_force_20 : decode cX8_force 20 = .ok (.istore_n 2, 1) := by decide +kernel
theorem dX8_force_21 : decode cX8_force 21 = .ok (.aload_n 0, 1) := by decide +kernel
theorem dX8_force_22 : decode cX8_force 22 = .ok (.iload_n 1, 1) := by decide +kernel
theorem dX8_force_23 : decode cX8_force 23 = .ok (.putfield 51, 3) := by decide +kernel
theorem dX8_force_26 : decode cX8_force 26 = .ok (.iload_n 2, 1) := by decide +kernel
theorem dX8_force_27 : decode cX8_force 27 = .ok (.ireturn, 1) := by decide +kernel
set_option maxRecDepth 20000 in
theorem ggX8_car_X3_hasCar : GoodIn wsX8_car wsX3_hasCar := goodIn_r _ [7, 8, 9, 10, 6, 11, 12, 13, 14, 15, 16, 17, 18, 19, 20, 21, 185, 186, 187, 188, 189, 190, 191, 192, 193, 194] rfl (by decide +kernel)
set_option maxRecDepth 20000 in
theorem gX8_car_X3_hasCar : GoodIn wsX8_car (wsV RX8 180 RX3 yX3_hasCar wsX3_hasCar) := goodIn_app (goodIn_of _ (by decide +kernel)) ggX8_car_X3_hasCar
set_option maxRecDepth 20000 in
theorem ggX8_car_X3_passes : GoodIn wsX8_car wsX3_passes := goodIn_r _ [25, 17, 18, 19, 6, 20, 21, 185, 186, 187, 188, 189, 190, 191, 192, 193, 194] rfl (by decide +kernel)
set_option maxRecDepth 20000 in
theorem gX8_car_X3_passes : GoodIn wsX8_car (wsV RX8 183 RX3 yX3_passes wsX3_passes) := goodIn_app (goodIn_of _ (by decide +kernel)) ggX8_car_X3_passes
set_option maxRecDepth 20000 in
theorem ggX8_car_X8_prepareTrip : GoodIn wsX8_car wsX8_prepareTrip := goodIn_r _ [30, 1, 31, 2, 32, 33, 34, 35, 36, 37, 38, 6, 39, 40, 12, 41, 42, 43, 44, 45, 46, 47, 48, 49, 50, 51, 52, 53, 54, 55, 56, 57, 58, 59, 60, 61, 62, 63, 64, 65, 66, 29, 67, 68, 69, 70, 71, 72, 73, 74, 75, 76, 77, 78, 79, 80, 81, 82, 83, 84, 85, 86, 87, 88, 89, 90, 91, 92, 93, 94, 169, 170, 171, 172, 173, 174, 175, 176, 177, 178, 179, 180, 181, 182, 183, 184, 195, 196, 197, 198, 199, 200, 201, 202, 203, 204, 205, 206, 207, 208, 209, 210, 211, 185, 186, 187, 188, 189, 190, 191, 192, 193, 194, 212, 213, 214] rfl (by decide +kernel)
set_option maxRecDepth 20000 in
theorem gX8_car_X8_prepareTrip : GoodIn wsX8_car (wsV RX8 186 RX8 yX8_prepareTrip wsX8_prepareTrip) := goodIn_app (goodIn_of _ (by decide +kernel)) ggX8_car_X8_prepareTrip
set_option maxRecDepth 20000 in
theorem ggX8_car_X7_draw : GoodIn wsX8_car wsX7_draw := goodIn_r _ [98, 99, 81, 195, 196, 197, 198, 199, 200, 201, 202, 203, 204, 205, 206, 207, 208, 209, 210, 211] rfl (by decide +kernel)
set_option maxRecDepth 20000 in
theorem gX8_car_X7_draw : GoodIn wsX8_car (wsV RX8 189 RX7 yX7_draw wsX7_draw) := goodIn_app (goodIn_of _ (by decide +kernel)) ggX8_car_X7_draw
set_option maxRecDepth 20000 in
theorem ggX8_car_X7_isStopping : GoodIn wsX8_car wsX7_isStopping := goodIn_r _ [103, 104, 105, 96, 97, 73, 98, 99, 81, 106, 23, 24, 6, 25, 17, 18, 19, 20, 21, 107, 108, 109, 110, 87, 75, 111, 112, 113, 114, 92, 115, 116, 94, 117, 118, 119, 120, 121, 122, 123, 78, 79, 80, 124, 50, 51, 52, 53, 125, 126, 127, 128, 129, 130, 55, 56, 57, 58, 131, 132, 133, 134, 135, 136, 137, 138, 139, 140, 141, 142, 143, 144, 145, 146, 147, 148, 149, 150, 151, 152, 153, 154, 155, 156, 157, 158, 159, 160, 161, 162, 163, 164, 165, 166, 167, 168, 195, 196, 197, 198, 199, 200, 201, 202, 203, 204, 205, 206, 207, 208, 209, 210, 211, 185, 186, 187, 188, 189, 190, 191, 192, 193, 194, 212, 213, 214, 215, 216, 217, 218] rfl (by decide +kernel)
set_option maxRecDepth 20000 in
theorem gX8_car_X7_isStopping : GoodIn wsX8_car (wsV RX8 192 RX7 yX7_isStopping wsX7_isStopping) := goodIn_app (goodIn_of _ (by decide +kernel)) ggX8_car_X7_isStopping
theorem dX8_car_0 : decode cX8_car 0 = .ok (.aload_n 0, 1) := by decide +kernel
theorem dX8_car_1 : decode cX8_car 1 = .ok (.getfield 20, 3) := by decide +kernel
theorem dX8_car_4 : decode cX8_car 4 = .ok (.iload_n 1, 1) := by decide +kernel
theorem dX8_car_5 : decode cX8_car 5 = .ok (.iload_n 2, 1) := by decide +kernel
theorem dX8_car_6 : decode cX8_car 6 = .ok (.invokevirtual 180, 3) := by decide +kernel
theorem dX8_car_9 : decode cX8_car 9 = .ok (.ifCond .eq 12, 3) := by decide +kernel
theorem dX8_car_12 : decode cX8_car 12 = .ok (.iload_n 3, 1) := by decide +kernel
theorem dX8_car_13 : decode cX8_car 13 = .ok (.ifCond .lt 8, 3) := by decide +kernel
theorem dX8_car_16 : decode cX8_car 16 = .ok (.iload_n 3, 1) := by decide +kernel
theorem dX8_car_17 : decode cX8_car 17 = .ok (.iconst 2, 1) := by decide +kernel
theorem dX8_car_18 : decode cX8_car 18 = .ok (.if_icmp .le 5, 3) := by decide +kernel
theorem dX8_car_21 : decode cX8_car 21 = .ok (.iconst (-1), 1) := by decide +kernel
theorem dX8_car_22 : decode cX8_car 22 = .ok (.ireturn, 1) := by decide +kernel
theorem dX8_car_23 : decode cX8_car 23 = .ok (.iload_n 3, 1) := by decide +kernel
theorem dX8_car_24 : decode cX8_car 24 = .ok (.ifCond .ne 13, 3) := by decide +kernel
theorem dX8_car_27 : decode cX8_car 27 = .ok (.aload_n 0, 1) := by decide +kernel
theorem dX8_car_28 : decode cX8_car 28 = .ok (.getfield 20, 3) := by decide +kernel
theorem dX8_car_31 : decode cX8_car 31 = .ok (.iload_n 1, 1) := by decide +kernel
theorem dX8_car_32 : decode cX8_car 32 = .ok (.iload_n 2, 1) := by decide +kernel
theorem dX8_car_33 : decode cX8_car 33 = .ok (.invokevirtual 183, 3) := by decide +kernel
theorem dX8_car_36 : decode cX8_car 36 = .ok (.ireturn, 1) := by decide +kernel
theorem dX8_car_37 : decode cX8_car 37 = .ok (.aload_n 0, 1) := by decide +kernel
theorem dX8_car_38 : decode cX8_car 38 = .ok (.invokevirtual 186, 3) := by decide +kernel
theorem dX8_car_41 : decode cX8_car 41 = .ok (.iload_n 3, 1) := by decide +kernel
theorem dX8_car_42 : decode cX8_car 42 = .ok (.iconst 1, 1) := by decide +kernel
theorem dX8_car_43 : decode cX8_car 43 = .ok (.if_icmp .ne 13, 3) := by decide +kernel
theorem dX8_car_46 : decode cX8_car 46 = .ok (.aload_n 0, 1) := by decide +kernel
theorem dX8_car_47 : decode cX8_car 47 = .ok (.getfield 10, 3) := by decide +kernel
theorem dX8_car_50 : decode cX8_car 50 = .ok (.iload_n 1, 1) := by decide +kernel
theorem dX8_car_51 : decode cX8_car 51 = .ok (.iload_n 2, 1) := by decide +kernel
theorem dX8_car_52 : decode cX8_car 52 = .ok (.invokevirtual 189, 3) := by decide +kernel
theorem dX8_car_55 : decode cX8_car 55 = .ok (.ireturn, 1) := by decide +kernel
theorem dX8_car_56 : decode cX8_car 56 = .ok (.aload_n 0, 1) := by decide +kernel
theorem dX8_car_57 : decode cX8_car 57 = .ok (.getfield 10, 3) := by decide +kernel
theorem dX8_car_60 : decode cX8_car 60 = .ok (.iload_n 1, 1) := by decide +kernel
theorem dX8_car_61 : decode cX8_car 61 = .ok (.iload_n 2, 1) := by decide +kernel
theorem dX8_car_62 : decode cX8_car 62 = .ok (.invokevirtual 192, 3) := by decide +kernel
theorem dX8_car_65 : decode cX8_car 65 = .ok (.ifCond .eq 7, 3) := by decide +kernel
theorem dX8_car_68 : decode cX8_car 68 = .ok (.iconst 1, 1) := by decide +kernel
theorem dX8_car_69 : decode cX8_car 69 = .ok (.goto 4, 3) := by decide +kernel
theorem dX8_car_72 : decode cX8_car 72 = .ok (.iconst 0, 1) := by decide +kernel
theorem dX8_car_73 : decode cX8_car 73 = .ok (.ireturn, 1) := by decide +kernel
