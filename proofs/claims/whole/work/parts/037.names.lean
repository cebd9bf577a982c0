set_option maxRecDepth 20000 in
theorem ggX7_init_X3_init : GoodIn wsX7_init wsX3_init := goodIn_r _ [19, 20, 2, 3, 8, 21, 22, 23, 24, 25, 26, 27, 28, 35, 36, 37, 38, 39, 40, 41, 42, 43, 44] rfl (by decide +kernel)
set_option maxRecDepth 20000 in
theorem gX7_init_X3_init_n11 : GoodIn wsX7_init (wsX3_init) := ggX7_init_X3_init
set_option maxRecDepth 20000 in
theorem ggX7_init_X2_init : GoodIn wsX7_init wsX2_init := goodIn_r _ [30, 31, 2, 3, 8, 32, 33, 34, 62, 63, 64] rfl (by decide +kernel)
set_option maxRecDepth 20000 in
theorem gX7_init_X2_init_n29 : GoodIn wsX7_init (wsX2_init) := ggX7_init_X2_init
theorem dX7_init_0 : decode cX7_init 0 = .ok (.aload_n 0, 1) := by decide +kernel
theorem dX7_init_1 : decode cX7_init 1 = .ok (.invokespecial 3, 3) := by decide +kernel
theorem dX7_init_4 : decode cX7_init 4 = .ok (.aload_n 0, 1) := by decide +kernel
theorem dX7_init_5 : decode cX7_init 5 = .ok (.new 9, 3) := by decide +kernel
theorem dX7_init_8 : decode cX7_init 8 = .ok (.dup, 1) := by decide +kernel
theorem dX7_init_9 : decode cX7_init 9 = .ok (.invokespecial 11, 3) := by decide +kernel
theorem dX7_init_12 : decode cX7_init 12 = .ok (.putfield 12, 3) := by decide +kernel
theorem dX7_init_15 : decode cX7_init 15 = .ok (.aload_n 0, 1) := by decide +kernel
theorem dX7_init_16 : decode cX7_init 16 = .ok (.bipush 8, 2) := by decide +kernel
theorem dX7_init_18 : decode cX7_init 18 = .ok (.newarray .int, 2) := by decide +kernel
theorem dX7_init_20 : decode cX7_init 20 = .ok (.putfield 18, 3) := by decide +kernel
theorem dX7_init_23 : decode cX7_init 23 = .ok (.aload_n 0, 1) := by decide +kernel
theorem dX7_init_24 : decode cX7_init 24 = .ok (.bipush 10, 2) := by decide +kernel
theorem dX7_init_26 : decode cX7_init 26 = .ok (.newarray .int, 2) := by decide +kernel
theorem dX7_init_28 : decode cX7_init 28 = .ok (.putfield 24, 3) := by decide +kernel
theorem dX7_init_31 : decode cX7_init 31 = .ok (.aload_n 0, 1) := by decide +kernel
theorem dX7_init_32 : decode cX7_init 32 = .ok (.new 27, 3) := by decide +kernel
theorem dX7_init_35 : decode cX7_init 35 = .ok (.dup, 1) := by decide +kernel
theorem dX7_init_36 : decode cX7_init 36 = .ok (.invokespecial 29, 3) := by decide +kernel
theorem dX7_init_39 : decode cX7_init 39 = .ok (.putfield 30, 3) := by decide +kernel
theorem dX7_init_42 : decode cX7_init 42 = .ok (.aload_n 0, 1) := by decide +kernel
theorem dX7_init_43 : decode cX7_init 43 = .ok (.new 27, 3) := by decide +kernel
theorem dX7_init_46 : decode cX7_init 46 = .ok (.dup, 1) := by decide +kernel
theorem dX7_init_47 : decode cX7_init 47 = .ok (.invokespecial 29, 3) := by decide +kernel
theorem dX7_init_50 : decode cX7_init 50 = .ok (.putfield 34, 3) := by decide +kernel
theorem dX7_init_53 : decode cX7_init 53 = .ok (.aload_n 0, 1) := by decide +kernel
theorem dX7_init_54 : decode cX7_init 54 = .ok (.bipush 9, 2) := by decide +kernel
theorem dX7_init_56 : decode cX7_init 56 = .ok (.newarray .int, 2) := by decide +kernel
theorem dX7_init_58 : decode cX7_init 58 = .ok (.putfield 37, 3) := by decide +kernel
theorem dX7_init_61 : decode cX7_init 61 = .ok (.aload_n 0, 1) := by decide +kernel
theorem dX7_init_62 : decode cX7_init 62 = .ok (.bipush 20, 2) := by decide +kernel
theorem dX7_init_64 : decode cX7_init 64 = .ok (.newarray .int, 2) := by decide +kernel
theorem dX7_init_66 : decode cX7_init 66 = .ok (.putfield 40, 3) := by decide +kernel
theorem dX7_init_69 : decode cX7_init 69 = .ok (.return_, 1) := by decide +kernel
set_option maxRecDepth 20000 in
theorem ggX7_begins_X7_forget : GoodIn wsX7_begins wsX7_forget := goodIn_r _ [13, 14, 15, 16, 17, 18, 19, 20, 21, 22, 23, 24, 25, 26, 27, 28, 29, 30, 31, 32, 33, 34, 35, 36, 37, 38, 39, 40, 41] rfl (by decide +kernel)
set_option maxRecDepth 20000 in
theorem gX7_begins_X7_forget : GoodIn wsX7_begins (wsV RX7 69 RX7 yX7_forget wsX7_forget) := goodIn_app (goodIn_of _ (by decide +kernel)) ggX7_begins_X7_forget
theorem dX7_begins_0 : decode cX7_begins 0 = .ok (.aload_n 1, 1) := by decide +kernel
theorem dX7_begins_1 : decode cX7_begins 1 = .ok (.arraylength, 1) := by decide +kernel
theorem dX7_begins_2 : decode cX7_begins 2 = .ok (.bipush 6, 2) := by decide +kernel
theorem dX7_begins_4 : decode cX7_begins 4 = .ok (.if_icmp .ge 4, 3) := by decide +kernel
theorem dX7_begins_7 : decode cX7_begins 7 = .ok (.return_, 1) := by decide +kernel
theorem dX7_begins_8 : decode cX7_begins 8 = .ok (.aload_n 0, 1) := by decide +kernel
theorem dX7_begins_9 : decode cX7_begins 9 = .ok (.aload_n 2, 1) := by decide +kernel
theorem dX7_begins_10 : decode cX7_begins 10 = .ok (.putfield 43, 3) := by decide +kernel
theorem dX7_begins_13 : decode cX7_begins 13 = .ok (.aload_n 0, 1) := by decide +kernel
theorem dX7_begins_14 : decode cX7_begins 14 = .ok (.aload_n 3, 1) := by decide +kernel
theorem dX7_begins_15 : decode cX7_begins 15 = .ok (.putfield 47, 3) := by decide +kernel
theorem dX7_begins_18 : decode cX7_begins 18 = .ok (.aload_n 0, 1) := by decide +kernel
theorem dX7_begins_19 : decode cX7_begins 19 = .ok (.aload_n 1, 1) := by decide +kernel
theorem dX7_begins_20 : decode cX7_begins 20 = .ok (.iconst 0, 1) := by decide +kernel
theorem dX7_begins_21 : decode cX7_begins 21 = .ok (.iaload, 1) := by decide +kernel
theorem dX7_begins_22 : decode cX7_begins 22 = .ok (.putfield 50, 3) := by decide +kernel
theorem dX7_begins_25 : decode cX7_begins 25 = .ok (.aload_n 0, 1) := by decide +kernel
theorem dX7_begins_26 : decode cX7_begins 26 = .ok (.aload_n 1, 1) := by decide +kernel
theorem dX7_begins_27 : decode cX7_begins 27 = .ok (.iconst 2, 1) := by decide +kernel
theorem dX7_begins_28 : decode cX7_begins 28 = .ok (.iaload, 1) := by decide +kernel
theorem dX7_begins_29 : decode cX7_begins 29 = .ok (.putfield 54, 3) := by decide +kernel
theorem dX7_begins_32 : decode cX7_begins 32 = .ok (.aload_n 0, 1) := by decide +kernel
theorem dX7_begins_33 : decode cX7_begins 33 = .ok (.aload_n 1, 1) := by decide +kernel
theorem dX7_begins_34 : decode cX7_begins 34 = .ok (.iconst 3, 1) := by decide +kernel
theorem dX7_begins_35 : decode cX7_begins 35 = .ok (.iaload, 1) := by decide +kernel
theorem dX7_begins_36 : decode cX7_begins 36 = .ok (.putfield 57, 3) := by decide +kernel
theorem dX7_begins_39 : decode cX7_begins 39 = .ok (.aload_n 0, 1) := by decide +kernel
theorem dX7_begins_40 : decode cX7_begins 40 = .ok (.aload_n 1, 1) := by decide +kernel
theorem dX7_begins_41 : decode cX7_begins 41 = .ok (.iconst 4, 1) := by decide +kernel
theorem dX7_begins_42 : decode cX7_begins 42 = .ok (.iaload, 1) := by decide +kernel
theorem dX7_begins_43 : decode cX7_begins 43 = .ok (.putfield 60, 3) := by decide +kernel
theorem dX7_begins_46 : decode cX7_begins 46 = .ok (.aload_n 0, 1) := by decide +kernel
theorem dX7_begins_47 : decode cX7_begins 47 = .ok (.aload_n 1, 1) := by decide +kernel
theorem dX7_begins_48 : decode cX7_begins 48 = .ok (.iconst 5, 1) := by decide +kernel
theorem dX7_begins_49 : decode cX7_begins 49 = .ok (.iaload, 1) := by decide +kernel
theorem dX7_begins_50 : decode cX7_begins 50 = .ok (.putfield 63, 3) := by decide +kernel
theorem dX7_begins_53 : decode cX7_begins 53 = .ok (.aload_n 0, 1) := by decide +kernel
theorem dX7_begins_54 : decode cX7_begins 54 = .ok (.bipush 99, 2) := by decide +kernel
theorem dX7_begins_56 : decode cX7_begins 56 = .ok (.putfield 66, 3) := by decide +kernel
theorem dX7_begins_59 : decode cX7_begins 59 = .ok (.aload_n 0, 1) := by decide +kernel
theorem dX7_begins_60 : decode cX7_begins 60 = .ok (.invokevirtual 69, 3) := by decide +kernel
theorem dX7_begins_63 : decode cX7_begins 63 = .ok (.return_, 1) := by decide +kernel
set_option maxRecDepth 20000 in
theorem ggX7_holdSign_X7_forget : GoodIn wsX7_holdSign wsX7_forget := goodIn_r _ [6, 7, 8, 9, 10, 11, 12, 13, 14, 15, 16, 17, 18, 19, 20, 21, 22, 23, 24, 25, 26, 27, 28, 29, 30, 31, 32, 33, 34] rfl (by decide +kernel)
set_option maxRecDepth 20000 in
theorem gX7_holdSign_X7_forget : GoodIn wsX7_holdSign (wsV RX7 69 RX7 yX7_forget wsX7_forget) := goodIn_app (goodIn_of _ (by decide +kernel)) ggX7_holdSign_X7_forget
theorem dX7_holdSign_0 : decode cX7_holdSign 0 = .ok (.aload_n 0, 1) := by decide +kernel
theorem dX7_holdSign_1 : decode cX7_holdSign 1 = .ok (.iload_n 1, 1) := by decide +kernel
theorem dX7_holdSign_2 : decode cX7_holdSign 2 = .ok (.putfield 60, 3) := by decide +kernel
theorem dX7_holdSign_5 : decode cX7_holdSign 5 = .ok (.aload_n 0, 1) := by decide +kernel
theorem dX7_holdSign_6 : decode cX7_holdSign 6 = .ok (.invokevirtual 69, 3) := by decide +kernel
theorem dX7_holdSign_9 : decode cX7_holdSign 9 = .ok (.return_, 1) := by decide +kernel
set_option maxRecDepth 20000 in
theorem ggX7_goAs_X7_forget : GoodIn wsX7_goAs wsX7_forget := goodIn_r _ [6, 7, 8, 9, 10, 11, 12, 13, 14, 15, 16, 17, 18, 19, 20, 21, 22, 23, 24, 25, 26, 27, 28, 29, 30, 31, 32, 33, 34] rfl (by decide +kernel)
set_option maxRecDepth 20000 in
theorem gX7_goAs_X7_forget : GoodIn wsX7_goAs (wsV RX7 69 RX7 yX7_forget wsX7_forget) := goodIn_app (goodIn_of _ (by decide +kernel)) ggX7_goAs_X7_forget
theorem dX7_goAs_0 : decode cX7_goAs 0 = .ok (.aload_n 0, 1) := by decide +kernel
theorem dX7_goAs_1 : decode cX7_goAs 1 = .ok (.iload_n 1, 1) := by decide +kernel
theorem dX7_goAs_2 : decode cX7_goAs 2 = .ok (.putfield 54, 3) := by decide +kernel
theorem dX7_goAs_5 : decode cX7_goAs 5 = .ok (.aload_n 0, 1) := by decide +kernel
theorem dX7_goAs_6 : decode cX7_goAs 6 = .ok (.invokevirtual 69, 3) := by decide +kernel
theorem dX7_goAs_9 : decode cX7_goAs 9 = .ok (.return_, 1) := by decide +kernel
set_option maxRecDepth 20000 in
theorem ggX7_judgeBy_X7_forget : GoodIn wsX7_judgeBy wsX7_forget := goodIn_r _ [6, 7, 8, 9, 10, 11, 12, 13, 14, 15, 16, 17, 18, 19, 20, 21, 22, 23, 24, 25, 26, 27, 28, 29, 30, 31, 32, 33, 34] rfl (by decide +kernel)
set_option maxRecDepth 20000 in
theorem gX7_judgeBy_X7_forget : GoodIn wsX7_judgeBy (wsV RX7 69 RX7 yX7_forget wsX7_forget) := goodIn_app (goodIn_of _ (by decide +kernel)) ggX7_judgeBy_X7_forget
theorem dX7_judgeBy_0 : decode cX7_judgeBy 0 = .ok (.aload_n 0, 1) := by decide +kernel
theorem dX7_judgeBy_1 : decode cX7_judgeBy 1 = .ok (.aload_n 1, 1) := by decide +kernel
theorem dX7_judgeBy_2 : decode cX7_judgeBy 2 = .ok (.putfield 43, 3) := by decide +kernel
theorem dX7_judgeBy_5 : decode cX7_judgeBy 5 = .ok (.aload_n 0, 1) := by decide +kernel
theorem dX7_judgeBy_6 : decode cX7_judgeBy 6 = .ok (.invokevirtual 69, 3) := by decide +kernel
theorem dX7_judgeBy_9 : decode cX7_judgeBy 9 = .ok (.return_, 1) := by decide +kernel
set_option maxRecDepth 20000 in
theorem ggX7_forget_X2_forget : GoodIn wsX7_forget wsX2_forget := goodIn_r _ [7, 8, 26, 27, 28] rfl (by decide +kernel)
set_option maxRecDepth 20000 in
theorem gX7_forget_X2_forget : GoodIn wsX7_forget (wsV RX7 72 RX2 yX2_forget wsX2_forget) := goodIn_app (goodIn_of _ (by decide +kernel)) ggX7_forget_X2_forget
theorem dX7_forget_0 : decode cX7_forget 0 = .ok (.aload_n 0, 1) := by decide +kernel
theorem dX7_forget_1 : decode cX7_forget 1 = .ok (.getfield 30, 3) := by decide +kernel
theorem dX7_forget_4 : decode cX7_forget 4 = .ok (.invokevirtual 72, 3) := by decide +kernel
theorem dX7_forget_7 : decode cX7_forget 7 = .ok (.aload_n 0, 1) := by decide +kernel
theorem dX7_forget_8 : decode cX7_forget 8 = .ok (.getfield 34, 3) := by decide +kernel
theorem dX7_forget_11 : decode cX7_forget 11 = .ok (.invokevirtual 72, 3) := by decide +kernel
theorem dX7_forget_14 : decode cX7_forget 14 = .ok (.return_, 1) := by decide +kernel
theorem dX7_draw_0 : decode cX7_draw 0 = .ok (.iload_n 2, 1) := by decide +kernel
theorem dX7_draw_1 : decode cX7_draw 1 = .ok (.iconst 1, 1) := by decide +kernel
theorem dX7_draw_2 : decode cX7_draw 2 = .ok (.iadd, 1) := by decide +kernel
theorem dX7_draw_3 : decode cX7_draw 3 = .ok (.ldc 73, 2) := by decide +kernel
theorem dX7_draw_5 : decode cX7_draw 5 = .ok (.imul, 1) := by decide +kernel
theorem dX7_draw_6 : decode cX7_draw 6 = .ok (.iload_n 1, 1) := by decide +kernel
theorem dX7_draw_7 : decode cX7_draw 7 = .ok (.iconst 1, 1) := by decide +kernel
theorem dX7_draw_8 : decode cX7_draw 8 = .ok (.iadd, 1) := by decide +kernel
theorem dX7_draw_9 : decode cX7_draw 9 = .ok (.sipush 12345, 3) := by decide +kernel
theorem dX7_draw_12 : decode cX7_draw 12 = .ok (.imul, 1) := by decide +kernel
theorem dX7_draw_13 : decode cX7_draw 13 = .ok (.iadd, 1) := by decide +kernel
theorem dX7_draw_14 : decode cX7_draw 14 = .ok (.aload_n 0, 1) := by decide +kernel
theorem dX7_draw_15 : decode cX7_draw 15 = .ok (.getfield 63, 3) := by decide +kernel
theorem dX7_draw_18 : decode cX7_draw 18 = .ok (.iadd, 1) := by decide +kernel
theorem dX7_draw_19 : decode cX7_draw 19 = .ok (.bipush 8, 2) := by decide +kernel
theorem dX7_draw_21 : decode cX7_draw 21 = .ok (.iushr, 1) := by decide +kernel
theorem dX7_draw_22 : decode cX7_draw 22 = .ok (.sipush 1000, 3) := by decide +kernel
theorem dX7_draw_25 : decode cX7_draw 25 = .ok (.irem, 1) := by decide +kernel
theorem dX7_draw_26 : decode cX7_draw 26 = .ok (.ireturn, 1) := by decide +kernel
set_option maxRecDepth 20000 in
theorem ggX7_isStopping_X7_draw : GoodIn wsX7_isStopping wsX7_draw := goodIn_r _ [6, 7, 8, 96, 97, 98, 99, 100, 101, 102, 103, 104, 105, 106, 107, 108, 109, 110, 111, 112] rfl (by decide +kernel)
set_option maxRecDepth 20000 in
theorem gX7_isStopping_X7_draw : GoodIn wsX7_isStopping (wsV RX7 74 RX7 yX7_draw wsX7_draw) := goodIn_app (goodIn_of _ (by decide +kernel)) ggX7_isStopping_X7_draw
set_option maxRecDepth 20000 in
theorem ggX7_isStopping_X3_passes : GoodIn wsX7_isStopping wsX3_passes := goodIn_r _ [13, 14, 15, 16, 12, 17, 18, 113, 114, 115, 116, 117, 118, 119, 120, 121, 122] rfl (by decide +kernel)
set_option maxRecDepth 20000 in
theorem gX7_isStopping_X3_passes : GoodIn wsX7_isStopping (wsV RX7 78 RX3 yX3_passes wsX3_passes) := goodIn_app (goodIn_of _ (by decide +kernel)) ggX7_isStopping_X3_passes
set_option maxRecDepth 20000 in
theorem ggX7_isStopping_X7_bar : GoodIn wsX7_isStopping wsX7_bar := goodIn_r _ [22, 23, 24, 25, 26, 27, 28, 29, 30, 31, 32, 33, 34, 35, 36, 37, 38, 5, 39, 1, 40, 41, 42, 43, 44, 45, 12, 46, 47, 48, 49, 50, 51, 52, 53, 54, 55, 56, 57, 58, 59, 60, 61, 62, 63, 64, 65, 66, 67, 68, 69, 70, 71, 72, 73, 74, 75, 76, 77, 78, 79, 80, 81, 82, 83, 84, 85, 86, 87, 88, 89, 90, 91, 92, 93, 94, 95, 96, 97, 98, 99, 100, 101, 102, 103, 104, 105, 106, 107, 108, 109, 110, 111, 112, 123, 124, 125, 113, 114, 115, 116, 117, 118, 119, 120, 121, 122, 126, 127, 128, 129] rfl (by decide +kernel)
set_option maxRecDepth 20000 in
theorem gX7_isStopping_X7_bar : GoodIn wsX7_isStopping (wsV RX7 81 RX7 yX7_bar wsX7_bar) := goodIn_app (goodIn_of _ (by decide +kernel)) ggX7_isStopping_X7_bar
theorem dX7_isStopping_0 : decode cX7_isStopping 0 = .ok (.aload_n 0, 1) := by decide +kernel
theorem dX7_isStopping_1 : decode cX7_isStopping 1 = .ok (.iload_n 1, 1) := by decide +kernel
theorem dX7_isStopping_2 : decode cX7_isStopping 2 = .ok (.iload_n 2, 1) := by decide +kernel
theorem dX7_isStopping_3 : decode cX7_isStopping 3 = .ok (.invokevirtual 74, 3) := by decide +kernel
theorem dX7_isStopping_6 : decode cX7_isStopping 6 = .ok (.aload_n 0, 1) := by decide +kernel
theorem dX7_isStopping_7 : decode cX7_isStopping 7 = .ok (.iload_n 1, 1) := by decide +kernel
theorem dX7_isStopping_8 : decode cX7_isStopping 8 = .ok (.aload_n 0, 1) := by decide +kernel
theorem dX7_isStopping_9 : decode cX7_isStopping 9 = .ok (.getfield 12, 3) := by decide +kernel
theorem dX7_isStopping_12 : decode cX7_isStopping 12 = .ok (.iload_n 1, 1) := by decide +kernel
theorem dX7_isStopping_13 : decode cX7_isStopping 13 = .ok (.iload_n 2, 1) := by decide +kernel
theorem dX7_isStopping_14 : decode cX7_isStopping 14 = .ok (.invokevirtual 78, 3) := by decide +kernel
theorem dX7_isStopping_17 : decode cX7_isStopping 17 = .ok (.bipush 60, 2) := by decide +kernel
theorem dX7_isStopping_19 : decode cX7_isStopping 19 = .ok (.idiv, 1) := by decide +kernel
theorem dX7_isStopping_20 : decode cX7_isStopping 20 = .ok (.invokevirtual 81, 3) := by decide +kernel
theorem dX7_isStopping_23 : decode cX7_isStopping 23 = .ok (.if_icmp .ge 7, 3) := by decide +kernel
theorem dX7_isStopping_26 : decode cX7_isStopping 26 = .ok (.iconst 1, 1) := by decide +kernel
theorem dX7_isStopping_27 : decode cX7_isStopping 27 = .ok (.goto 4, 3) := by decide +kernel
theorem dX7_isStopping_30 : decode cX7_isStopping 30 = .ok (.iconst 0, 1) := by decide +kernel
theorem dX7_isStopping_31 : decode cX7_isStopping 31 = .ok (.ireturn, 1) := by decide +kernel
set_option maxRecDepth 20000 in
theorem ggX7_bar_X2_knows : GoodIn wsX7_bar wsX2_knows := goodIn_r _ [8, 9, 10, 11, 12, 7, 13, 94, 95, 96] rfl (by decide +kernel)
set_option maxRecDepth 20000 in
theorem gX7_bar_X2_knows : GoodIn wsX7_bar (wsV RX7 84 RX2 yX2_knows wsX2_knows) := goodIn_app (goodIn_of _ (by decide +kernel)) ggX7_bar_X2_knows
set_option maxRecDepth 20000 in
theorem ggX7_bar_X7_habit : GoodIn wsX7_bar wsX7_habit := goodIn_r _ [18, 19, 20, 21, 22, 23, 24, 25, 26, 27, 28, 29, 30, 31, 32, 33, 34, 35, 36, 37, 38, 77, 78, 79, 80, 81, 82, 83, 84, 85, 86, 87, 88, 89, 90, 91, 92, 93, 97, 98, 99, 100, 101, 102, 103, 104, 105, 106] rfl (by decide +kernel)
set_option maxRecDepth 20000 in
theorem gX7_bar_X7_habit : GoodIn wsX7_bar (wsV RX7 88 RX7 yX7_habit wsX7_habit) := goodIn_app (goodIn_of _ (by decide +kernel)) ggX7_bar_X7_habit
set_option maxRecDepth 20000 in
theorem ggX7_bar_X7_noteFacts : GoodIn wsX7_bar wsX7_noteFacts := goodIn_r _ [42, 3, 19, 20, 21, 22, 23, 24, 25, 26, 27, 28, 29, 30, 31, 32, 33, 43, 44, 45, 46, 47, 34, 35, 36, 37, 38, 48, 49, 50, 51, 52, 77, 78, 79, 80, 81, 82, 83, 84, 85, 86, 87, 88, 89, 90, 91, 92, 93, 97, 98, 99, 100, 101, 102, 103, 104, 105, 106] rfl (by decide +kernel)
set_option maxRecDepth 20000 in
theorem gX7_bar_X7_noteFacts : GoodIn wsX7_bar (wsV RX7 92 RX7 yX7_noteFacts wsX7_noteFacts) := goodIn_app (goodIn_of _ (by decide +kernel)) ggX7_bar_X7_noteFacts
set_option maxRecDepth 20000 in
theorem ggX7_bar_X6_worth : GoodIn wsX7_bar wsX6_worth := goodIn_r _ [57, 58, 59, 60, 61, 62, 63, 64, 65, 66, 56, 67, 107, 108, 109, 110] rfl (by decide +kernel)
set_option maxRecDepth 20000 in
theorem gX7_bar_X6_worth : GoodIn wsX7_bar (wsV RX7 96 RX6 yX6_worth wsX6_worth) := goodIn_app (goodIn_of _ (by decide +kernel)) ggX7_bar_X6_worth
set_option maxRecDepth 20000 in
theorem ggX7_bar_X2_learn : GoodIn wsX7_bar wsX2_learn := goodIn_r _ [71, 72, 9, 10, 11, 12, 7, 13, 94, 95, 96] rfl (by decide +kernel)
set_option maxRecDepth 20000 in
theorem gX7_bar_X2_learn : GoodIn wsX7_bar (wsV RX7 100 RX2 yX2_learn wsX2_learn) := goodIn_app (goodIn_of _ (by decide +kernel)) ggX7_bar_X2_learn
set_option maxRecDepth 20000 in
theorem ggX7_bar_X2_valueAt : GoodIn wsX7_bar wsX2_valueAt := goodIn_r _ [76, 72, 11, 12, 7, 13, 94, 95, 96] rfl (by decide +kernel)
set_option maxRecDepth 20000 in
theorem gX7_bar_X2_valueAt : GoodIn wsX7_bar (wsV RX7 104 RX2 yX2_valueAt wsX2_valueAt) := goodIn_app (goodIn_of _ (by decide +kernel)) ggX7_bar_X2_valueAt
theorem dX7_bar_0 : decode cX7_bar 0 = .ok (.aload_n 0, 1) := by decide +kernel
theorem dX7_bar_1 : decode cX7_bar 1 = .ok (.getfield 30, 3) := by decide +kernel
theorem dX7_bar_4 : decode cX7_bar 4 = .ok (.iload_n 1, 1) := by decide +kernel
theorem dX7_bar_5 : decode cX7_bar 5 = .ok (.iload_n 2, 1) := by decide +kernel
theorem dX7_bar_6 : decode cX7_bar 6 = .ok (.invokevirtual 84, 3) := by decide +kernel
theorem dX7_bar_9 : decode cX7_bar 9 = .ok (.ifCond .ne 47, 3) := by decide +kernel
theorem dX7_bar_12 : decode cX7_bar 12 = .ok (.aload_n 0, 1) := by decide +kernel
theorem dX7_bar_13 : decode cX7_bar 13 = .ok (.getfield 43, 3) := by decide +kernel
theorem dX7_bar_16 : decode cX7_bar 16 = .ok (.ifnonnull 12, 3) := by decide +kernel
theorem dX7_bar_19 : decode cX7_bar 19 = .ok (.aload_n 0, 1) := by decide +kernel
theorem dX7_bar_20 : decode cX7_bar 20 = .ok (.iload_n 1, 1) := by decide +kernel
theorem dX7_bar_21 : decode cX7_bar 21 = .ok (.invokevirtual 88, 3) := by decide +kernel
theorem dX7_bar_24 : decode cX7_bar 24 = .ok (.istore_n 3, 1) := by decide +kernel
theorem dX7_bar_25 : decode cX7_bar 25 = .ok (.goto 21, 3) := by decide +kernel
theorem dX7_bar_28 : decode cX7_bar 28 = .ok (.aload_n 0, 1) := by decide +kernel
theorem dX7_bar_29 : decode cX7_bar 29 = .ok (.iload_n 1, 1) := by decide +kernel
theorem dX7_bar_30 : decode cX7_bar 30 = .ok (.iload_n 2, 1) := by decide +kernel
theorem dX7_bar_31 : decode cX7_bar 31 = .ok (.invokevirtual 92, 3) := by decide +kernel
theorem dX7_bar_34 : decode cX7_bar 34 = .ok (.aload_n 0, 1) := by decide +kernel
theorem dX7_bar_35 : decode cX7_bar 35 = .ok (.getfield 43, 3) := by decide +kernel
theorem dX7_bar_38 : decode cX7_bar 38 = .ok (.aload_n 0, 1) := by decide +kernel
theorem dX7_bar_39 : decode cX7_bar 39 = .ok (.getfield 24, 3) := by decide +kernel
theorem dX7_bar_42 : decode cX7_bar 42 = .ok (.invokevirtual 96, 3) := by decide +kernel
theorem dX7_bar_45 : decode cX7_bar 45 = .ok (.istore_n 3, 1) := by decide +kernel
theorem dX7_bar_46 : decode cX7_bar 46 = .ok (.aload_n 0, 1) := by decide +kernel
theorem dX7_bar_47 : decode cX7_bar 47 = .ok (.getfield 30, 3) := by decide +kernel
theorem dX7_bar_50 : decode cX7_bar 50 = .ok (.iload_n 1, 1) := by decide +kernel
theorem dX7_bar_51 : decode cX7_bar 51 = .ok (.iload_n 2, 1) := by decide +kernel
theorem dX7_bar_52 : decode cX7_bar 52 = .ok (.iload_n 3, 1) := by decide +kernel
theorem dX7_bar_53 : decode cX7_bar 53 = .ok (.invokevirtual 100, 3) := by decide +kernel
theorem dX7_bar_56 : decode cX7_bar 56 = .ok (.aload_n 0, 1) := by decide +kernel
theorem dX7_bar_57 : decode cX7_bar 57 = .ok (.getfield 30, 3) := by decide +kernel
theorem dX7_bar_60 : decode cX7_bar 60 = .ok (.iload_n 1, 1) := by decide +kernel
theorem dX7_bar_61 : decode cX7_bar 61 = .ok (.iload_n 2, 1) := by decide +kernel
theorem dX7_bar_62 : decode cX7_bar 62 = .ok (.invokevirtual 104, 3) := by decide +kernel
theorem dX7_bar_65 : decode cX7_bar 65 = .ok (.ireturn, 1) := by decide +kernel
set_option maxRecDepth 20000 in
theorem ggX7_habit_X3_startOf : GoodIn wsX7_habit wsX3_startOf := goodIn_r _ [9, 10, 38, 39, 40, 41, 42, 43, 44, 45, 46, 47] rfl (by decide +kernel)
set_option maxRecDepth 20000 in
theorem gX7_habit_X3_startOf : GoodIn wsX7_habit (wsV RX7 107 RX3 yX3_startOf wsX3_startOf) := goodIn_app (goodIn_of _ (by decide +kernel)) ggX7_habit_X3_startOf
set_option maxRecDepth 20000 in
theorem ggX7_habit_X3_roomOf : GoodIn wsX7_habit wsX3_roomOf := goodIn_r _ [14, 15, 38, 39, 40, 41, 42, 43, 44, 45, 46, 47] rfl (by decide +kernel)
set_option maxRecDepth 20000 in
theorem gX7_habit_X3_roomOf : GoodIn wsX7_habit (wsV RX7 110 RX3 yX3_roomOf wsX3_roomOf) := goodIn_app (goodIn_of _ (by decide +kernel)) ggX7_habit_X3_roomOf
set_option maxRecDepth 20000 in
theorem ggX7_habit_X3_endOf : GoodIn wsX7_habit wsX3_endOf := goodIn_r _ [19, 20, 38, 39, 40, 41, 42, 43, 44, 45, 46, 47] rfl (by decide +kernel)
set_option maxRecDepth 20000 in
theorem gX7_habit_X3_endOf : GoodIn wsX7_habit (wsV RX7 113 RX3 yX3_endOf wsX3_endOf) := goodIn_app (goodIn_of _ (by decide +kernel)) ggX7_habit_X3_endOf
theorem dX7_habit_0 : decode cX7_habit 0 = .ok (.bipush 10, 2) := by decide +kernel
theorem dX7_habit_2 : decode cX7_habit 2 = .ok (.aload_n 0, 1) := by decide +kernel
theorem dX7_habit_3 : decode cX7_habit 3 = .ok (.getfield 12, 3) := by decide +kernel
theorem dX7_habit_6 : decode cX7_habit 6 = .ok (.aload_n 0, 1) := by decide +kernel
theorem dX7_habit_7 : decode cX7_habit 7 = .ok (.getfield 12, 3) := by decide +kernel
theorem dX7_habit_10 : decode cX7_habit 10 = .ok (.iload_n 1, 1) := by decide +kernel
theorem dX7_habit_11 : decode cX7_habit 11 = .ok (.invokevirtual 107, 3) := by decide +kernel
theorem dX7_habit_14 : decode cX7_habit 14 = .ok (.invokevirtual 110, 3) := by decide +kernel
theorem dX7_habit_17 : decode cX7_habit 17 = .ok (.imul, 1) := by decide +kernel
theorem dX7_habit_18 : decode cX7_habit 18 = .ok (.bipush 10, 2) := by decide +kernel
theorem dX7_habit_20 : decode cX7_habit 20 = .ok (.iadd, 1) := by decide +kernel
theorem dX7_habit_21 : decode cX7_habit 21 = .ok (.istore_n 2, 1) := by decide +kernel
theorem dX7_habit_22 : decode cX7_habit 22 = .ok (.aload_n 0, 1) := by decide +kernel
theorem dX7_habit_23 : decode cX7_habit 23 = .ok (.getfield 54, 3) := by decide +kernel
theorem dX7_habit_26 : decode cX7_habit 26 = .ok (.ifCond .le 10, 3) := by decide +kernel
theorem dX7_habit_29 : decode cX7_habit 29 = .ok (.iload_n 2, 1) := by decide +kernel
theorem dX7_habit_30 : decode cX7_habit 30 = .ok (.aload_n 0, 1) := by decide +kernel
theorem dX7_habit_31 : decode cX7_habit 31 = .ok (.getfield 54, 3) := by decide +kernel
theorem dX7_habit_34 : decode cX7_habit 34 = .ok (.idiv, 1) := by decide +kernel
theorem dX7_habit_35 : decode cX7_habit 35 = .ok (.istore_n 2, 1) := by decide +kernel
theorem dX7_habit_36 : decode cX7_habit 36 = .ok (.iload_n 2, 1) := by decide +kernel
theorem dX7_habit_37 : decode cX7_habit 37 = .ok (.iconst 5, 1) := by decide +kernel
theorem dX7_habit_38 : decode cX7_habit 38 = .ok (.aload_n 0, 1) := by decide +kernel
theorem dX7_habit_39 : decode cX7_habit 39 = .ok (.getfield 57, 3) := by decide +kernel
theorem dX7_habit_42 : decode cX7_habit 42 = .ok (.imul, 1) := by decide +kernel
theorem dX7_habit_43 : decode cX7_habit 43 = .ok (.isub, 1) := by decide +kernel
theorem dX7_habit_44 : decode cX7_habit 44 = .ok (.aload_n 0, 1) := by decide +kernel
theorem dX7_habit_45 : decode cX7_habit 45 = .ok (.getfield 12, 3) := by decide +kernel
theorem dX7_habit_48 : decode cX7_habit 48 = .ok (.iload_n 1, 1) := by decide +kernel
theorem dX7_habit_49 : decode cX7_habit 49 = .ok (.invokevirtual 113, 3) := by decide +kernel
theorem dX7_habit_52 : decode cX7_habit 52 = .ok (.aload_n 0, 1) := by decide +kernel
theorem dX7_habit_53 : decode cX7_habit 53 = .ok (.getfield 60, 3) := by decide +kernel
theorem dX7_habit_56 : decode cX7_habit 56 = .ok (.if_icmp .ne 8, 3) := by decide +kernel
theorem dX7_habit_59 : decode cX7_habit 59 = .ok (.bipush 20, 2) := by decide +kernel
theorem dX7_habit_61 : decode cX7_habit 61 = .ok (.goto 4, 3) := by decide +kernel
theorem dX7_habit_64 : decode cX7_habit 64 = .ok (.iconst 0, 1) := by decide +kernel
theorem dX7_habit_65 : decode cX7_habit 65 = .ok (.iadd, 1) := by decide +kernel
theorem dX7_habit_66 : decode cX7_habit 66 = .ok (.ireturn, 1) := by decide +kernel
set_option maxRecDepth 20000 in
theorem ggX7_noteFacts_X3_startOf : GoodIn wsX7_noteFacts wsX3_startOf := goodIn_r _ [10, 11, 49, 50, 51, 52, 53, 54, 55, 56, 57, 58] rfl (by decide +kernel)
set_option maxRecDepth 20000 in
theorem gX7_noteFacts_X3_startOf : GoodIn wsX7_noteFacts (wsV RX7 107 RX3 yX3_startOf wsX3_startOf) := goodIn_app (goodIn_of _ (by decide +kernel)) ggX7_noteFacts_X3_startOf
set_option maxRecDepth 20000 in
theorem ggX7_noteFacts_X3_roomOf : GoodIn wsX7_noteFacts wsX3_roomOf := goodIn_r _ [15, 16, 49, 50, 51, 52, 53, 54, 55, 56, 57, 58] rfl (by decide +kernel)
set_option maxRecDepth 20000 in
theorem gX7_noteFacts_X3_roomOf : GoodIn wsX7_noteFacts (wsV RX7 110 RX3 yX3_roomOf wsX3_roomOf) := goodIn_app (goodIn_of _ (by decide +kernel)) ggX7_noteFacts_X3_roomOf
set_option maxRecDepth 20000 in
theorem ggX7_noteFacts_X3_pumpsOf : GoodIn wsX7_noteFacts wsX3_pumpsOf := goodIn_r _ [20, 21, 49, 50, 51, 52, 53, 54, 55, 56, 57, 58] rfl (by decide +kernel)
set_option maxRecDepth 20000 in
theorem gX7_noteFacts_X3_pumpsOf : GoodIn wsX7_noteFacts (wsV RX7 116 RX3 yX3_pumpsOf wsX3_pumpsOf) := goodIn_app (goodIn_of _ (by decide +kernel)) ggX7_noteFacts_X3_pumpsOf
set_option maxRecDepth 20000 in
theorem ggX7_noteFacts_X3_endOf : GoodIn wsX7_noteFacts wsX3_endOf := goodIn_r _ [25, 26, 49, 50, 51, 52, 53, 54, 55, 56, 57, 58] rfl (by decide +kernel)
set_option maxRecDepth 20000 in
theorem gX7_noteFacts_X3_endOf : GoodIn wsX7_noteFacts (wsV RX7 113 RX3 yX3_endOf wsX3_endOf) := goodIn_app (goodIn_of _ (by decide +kernel)) ggX7_noteFacts_X3_endOf
set_option maxRecDepth 20000 in
theorem ggX7_noteFacts_X3_dangerOf : GoodIn wsX7_noteFacts wsX3_dangerOf := goodIn_r _ [30, 31, 49, 50, 51, 52, 53, 54, 55, 56, 57, 58] rfl (by decide +kernel)
set_option maxRecDepth 20000 in
theorem gX7_noteFacts_X3_dangerOf : GoodIn wsX7_noteFacts (wsV RX7 119 RX3 yX3_dangerOf wsX3_dangerOf) := goodIn_app (goodIn_of _ (by decide +kernel)) ggX7_noteFacts_X3_dangerOf
theorem dX7_noteFacts_0 : decode cX7_noteFacts 0 = .ok (.aload_n 0, 1) := by decide +kernel
theorem dX7_noteFacts_1 : decode cX7_noteFacts 1 = .ok (.getfield 24, 3) := by decide +kernel
theorem dX7_noteFacts_4 : decode cX7_noteFacts 4 = .ok (.iconst 0, 1) := by decide +kernel
theorem dX7_noteFacts_5 : decode cX7_noteFacts 5 = .ok (.aload_n 0, 1) := by decide +kernel
theorem dX7_noteFacts_6 : decode cX7_noteFacts 6 = .ok (.getfield 12, 3) := by decide +kernel
theorem dX7_noteFacts_9 : decode cX7_noteFacts 9 = .ok (.aload_n 0, 1) := by decide +kernel
theorem dX7_noteFacts_10 : decode cX7_noteFacts 10 = .ok (.getfield 12, 3) := by decide +kernel
theorem dX7_noteFacts_13 : decode cX7_noteFacts 13 = .ok (.iload_n 1, 1) := by decide +kernel
theorem dX7_noteFacts_14 : decode cX7_noteFacts 14 = .ok (.invokevirtual 107, 3) := by decide +kernel
theorem dX7_noteFacts_17 : decode cX7_noteFacts 17 = .ok (.invokevirtual 110, 3) := by decide +kernel
theorem dX7_noteFacts_20 : decode cX7_noteFacts 20 = .ok (.iastore, 1) := by decide +kernel
theorem dX7_noteFacts_21 : decode cX7_noteFacts 21 = .ok (.aload_n 0, 1) := by decide +kernel
theorem dX7_noteFacts_22 : decode cX7_noteFacts 22 = .ok (.getfield 24, 3) := by decide +kernel
theorem dX7_noteFacts_25 : decode cX7_noteFacts 25 = .ok (.iconst 1, 1) := by decide +kernel
theorem dX7_noteFacts_26 : decode cX7_noteFacts 26 = .ok (.aload_n 0, 1) := by decide +kernel
theorem dX7_noteFacts_27 : decode cX7_noteFacts 27 = .ok (.getfield 12, 3) := by decide +kernel
theorem dX7_noteFacts_30 : decode cX7_noteFacts 30 = .ok (.aload_n 0, 1) := by decide +kernel
theorem dX7_noteFacts_31 : decode cX7_noteFacts 31 = .ok (.getfield 12, 3) := by decide +kernel
theorem dX7_noteFacts_34 : decode cX7_noteFacts 34 = .ok (.iload_n 1, 1) := by decide +kernel
theorem dX7_noteFacts_35 : decode cX7_noteFacts 35 = .ok (.invokevirtual 107, 3) := by decide +kernel
theorem dX7_noteFacts_38 : decode cX7_noteFacts 38 = .ok (.invokevirtual 116, 3) := by decide +kernel
theorem dX7_noteFacts_41 : decode cX7_noteFacts 41 = .ok (.iastore, 1) := by decide +kernel
theorem dX7_noteFacts_42 : decode cX7_noteFacts 42 = .ok (.aload_n 0, 1) := by decide +kernel
theorem dX7_noteFacts_43 : decode cX7_noteFacts 43 = .ok (.getfield 24, 3) := by decide +kernel
theorem dX7_noteFacts_46 : decode cX7_noteFacts 46 = .ok (.iconst 2, 1) := by decide +kernel
theorem dX7_noteFacts_47 : decode cX7_noteFacts 47 = .ok (.iload_n 2, 1) := by decide +kernel
theorem dX7_noteFacts_48 : decode cX7_noteFacts 48 = .ok (.iastore, 1) := by decide +kernel
theorem dX7_noteFacts_49 : decode cX7_noteFacts 49 = .ok (.aload_n 0, 1) := by decide +kernel
theorem dX7_noteFacts_50 : decode cX7_noteFacts 50 = .ok (.getfield 24, 3) := by decide +kernel
theorem dX7_noteFacts_53 : decode cX7_noteFacts 53 = .ok (.iconst 3, 1) := by decide +kernel
theorem dX7_noteFacts_54 : decode cX7_noteFacts 54 = .ok (.aload_n 0, 1) := by decide +kernel
theorem dX7_noteFacts_55 : decode cX7_noteFacts 55 = .ok (.getfield 54, 3) := by decide +kernel
theorem dX7_noteFacts_58 : decode cX7_noteFacts 58 = .ok (.iastore, 1) := by decide +kernel
theorem dX7_noteFacts_59 : decode cX7_noteFacts 59 = .ok (.aload_n 0, 1) := by decide +kernel
theorem dX7_noteFacts_60 : decode cX7_noteFacts 60 = .ok (.getfield 24, 3) := by decide +kernel
theorem dX7_noteFacts_63 : decode cX7_noteFacts 63 = .ok (.iconst 4, 1) := by decide +kernel
theorem dX7_noteFacts_64 : decode cX7_noteFacts 64 = .ok (.aload_n 0, 1) := by decide +kernel
theorem dX7_noteFacts_65 : decode cX7_noteFacts 65 = .ok (.getfield 57, 3) := by decide +kernel
theorem dX7_noteFacts_68 : decode cX7_noteFacts 68 = .ok (.iastore, 1) := by decide +kernel
theorem dX7_noteFacts_69 : decode cX7_noteFacts 69 = .ok (.aload_n 0, 1) := by decide +kernel
theorem dX7_noteFacts_70 : decode cX7_noteFacts 70 = .ok (.getfield 24, 3) := by decide +kernel
theorem dX7_noteFacts_73 : decode cX7_noteFacts 73 = .ok (.iconst 5, 1) := by decide +kernel
theorem dX7_noteFacts_74 : decode cX7_noteFacts 74 = .ok (.aload_n 0, 1) := by decide +kernel
theorem dX7_noteFacts_75 : decode cX7_noteFacts 75 = .ok (.getfield 12, 3) := by decide +kernel
theorem dX7_noteFacts_78 : decode cX7_noteFacts 78 = .ok (.iload_n 1, 1) := by decide +kernel
theorem dX7_noteFacts_79 : decode cX7_noteFacts 79 = .ok (.invokevirtual 113, 3) := by decide +kernel
theorem dX7_noteFacts_82 : decode cX7_noteFacts 82 = .ok (.aload_n 0, 1) := by decide +kernel
theorem dX7_noteFacts_83 : decode cX7_noteFacts 83 = .ok (.getfield 60, 3) := by decide +kernel
theorem dX7_noteFacts_86 : decode cX7_noteFacts 86 = .ok (.if_icmp .ne 7, 3) := by decide +kernel
theorem dX7_noteFacts_89 : decode cX7_noteFacts 89 = .ok (.iconst 1, 1) := by decide +kernel
theorem dX7_noteFacts_90 : decode cX7_noteFacts 90 = .ok (.goto 4, 3) := by decide +kernel
theorem dX7_noteFacts_93 : decode cX7_noteFacts 93 = .ok (.iconst 0, 1) := by decide +kernel
theorem dX7_noteFacts_94 : decode cX7_noteFacts 94 = .ok (.iastore, 1) := by decide +kernel
theorem dX7_noteFacts_95 : decode cX7_noteFacts 95 = .ok (.aload_n 0, 1) := by decide +kernel
theorem dX7_noteFacts_96 : decode cX7_noteFacts 96 = .ok (.getfield 24, 3) := by decide +kernel
theorem dX7_noteFacts_99 : decode cX7_noteFacts 99 = .ok (.bipush 6, 2) := by decide +kernel
theorem dX7_noteFacts_101 : decode cX7_noteFacts 101 = .ok (.aload_n 0, 1) := by decide +kernel
theorem dX7_noteFacts_102 : decode cX7_noteFacts 102 = .ok (.getfield 12, 3) := by decide +kernel
theorem dX7_noteFacts_105 : decode cX7_noteFacts 105 = .ok (.iload_n 1, 1) := by decide +kernel
theorem dX7_noteFacts_106 : decode cX7_noteFacts 106 = .ok (.invokevirtual 119, 3) := by decide +kernel
theorem dX7_noteFacts_109 : decode cX7_noteFacts 109 = .ok (.iastore, 1) := by decide +kernel
theorem dX7_noteFacts_110 : decode cX7_noteFacts 110 = .ok (.aload_n 0, 1) := by decide +kernel
theorem dX7_noteFacts_111 : decode cX7_noteFacts 111 = .ok (.getfield 24, 3) := by decide +kernel
theorem dX7_noteFacts_114 : decode cX7_noteFacts 114 = .ok (.bipush 7, 2) := by decide +kernel
theorem dX7_noteFacts_116 : decode cX7_noteFacts 116 = .ok (.iconst 0, 1) := by decide +kernel
theorem dX7_noteFacts_117 : decode cX7_noteFacts 117 = .ok (.iastore, 1) := by decide +kernel
theorem dX7_noteFacts_118 : decode cX7_noteFacts 118 = .ok (.aload_n 0, 1) := by decide +kernel
theorem dX7_noteFacts_119 : decode cX7_noteFacts 119 = .ok (.getfield 24, 3) := by decide +kernel
theorem dX7_noteFacts_122 : decode cX7_noteFacts 122 = .ok (.bipush 8, 2) := by decide +kernel
theorem dX7_noteFacts_124 : decode cX7_noteFacts 124 = .ok (.iconst 0, 1) := by decide +kernel
theorem dX7_noteFacts_125 : decode cX7_noteFacts 125 = .ok (.iastore, 1) := by decide +kernel
theorem dX7_noteFacts_126 : decode cX7_noteFacts 126 = .ok (.aload_n 0, 1) := by decide +kernel
theorem dX7_noteFacts_127 : decode cX7_noteFacts 127 = .ok (.getfield 24, 3) := by decide +kernel
theorem dX7_noteFacts_130 : decode cX7_noteFacts 130 = .ok (.bipush 9, 2) := by decide +kernel
theorem dX7_noteFacts_132 : decode cX7_noteFacts 132 = .ok (.iconst 0, 1) := by decide +kernel
theorem dX7_noteFacts_133 : decode cX7_noteFacts 133 = .ok (.iastore, 1) := by decide +kernel
theorem dX7_noteFacts_134 : decode cX7_noteFacts 134 = .ok (.return_, 1) := by decide +kernel
set_option maxRecDepth 20000 in
theorem ggX7_getsIn_X7_leadsNearer : GoodIn wsX7_getsIn wsX7_leadsNearer := goodIn_r _ [10, 5, 11, 12, 13, 14, 15, 16, 17, 18, 19, 9, 20, 21, 22, 23, 24, 25, 26, 83, 84, 85, 86, 87, 88, 89, 90, 91, 92, 93, 94, 95, 96, 97, 98, 99, 104, 105, 106, 107, 108, 109, 110, 111, 112, 113] rfl (by decide +kernel)
set_option maxRecDepth 20000 in
theorem gX7_getsIn_X7_leadsNearer : GoodIn wsX7_getsIn (wsV RX7 122 RX7 yX7_leadsNearer wsX7_leadsNearer) := goodIn_app (goodIn_of _ (by decide +kernel)) ggX7_getsIn_X7_leadsNearer
set_option maxRecDepth 20000 in
theorem ggX7_getsIn_X2_knows : GoodIn wsX7_getsIn wsX2_knows := goodIn_r _ [31, 32, 33, 34, 35, 30, 36, 114, 115, 116] rfl (by decide +kernel)
set_option maxRecDepth 20000 in
theorem gX7_getsIn_X2_knows : GoodIn wsX7_getsIn (wsV RX7 84 RX2 yX2_knows wsX2_knows) := goodIn_app (goodIn_of _ (by decide +kernel)) ggX7_getsIn_X2_knows
set_option maxRecDepth 20000 in
theorem ggX7_getsIn_X2_valueAt : GoodIn wsX7_getsIn wsX2_valueAt := goodIn_r _ [40, 41, 34, 35, 30, 36, 114, 115, 116] rfl (by decide +kernel)
set_option maxRecDepth 20000 in
theorem gX7_getsIn_X2_valueAt : GoodIn wsX7_getsIn (wsV RX7 104 RX2 yX2_valueAt wsX2_valueAt) := goodIn_app (goodIn_of _ (by decide +kernel)) ggX7_getsIn_X2_valueAt
set_option maxRecDepth 20000 in
theorem ggX7_getsIn_X7_noteFacts : GoodIn wsX7_getsIn wsX7_noteFacts := goodIn_r _ [45, 4, 5, 46, 47, 48, 22, 23, 24, 14, 25, 26, 49, 50, 51, 52, 53, 54, 55, 56, 57, 58, 11, 12, 13, 15, 16, 59, 60, 61, 62, 63, 83, 84, 85, 86, 87, 88, 89, 90, 91, 92, 93, 94, 95, 96, 97, 98, 99, 104, 105, 106, 107, 108, 109, 110, 111, 112, 113] rfl (by decide +kernel)
set_option maxRecDepth 20000 in
theorem gX7_getsIn_X7_noteFacts : GoodIn wsX7_getsIn (wsV RX7 92 RX7 yX7_noteFacts wsX7_noteFacts) := goodIn_app (goodIn_of _ (by decide +kernel)) ggX7_getsIn_X7_noteFacts
set_option maxRecDepth 20000 in
theorem ggX7_getsIn_X3_endOf : GoodIn wsX7_getsIn wsX3_endOf := goodIn_r _ [15, 16, 104, 105, 106, 107, 108, 109, 110, 111, 112, 113] rfl (by decide +kernel)
set_option maxRecDepth 20000 in
theorem gX7_getsIn_X3_endOf : GoodIn wsX7_getsIn (wsV RX7 113 RX3 yX3_endOf wsX3_endOf) := goodIn_app (goodIn_of _ (by decide +kernel)) ggX7_getsIn_X3_endOf
set_option maxRecDepth 20000 in
theorem ggX7_getsIn_X7_goalFrom : GoodIn wsX7_getsIn wsX7_goalFrom := goodIn_r _ [20, 21, 83, 84, 85, 86, 87, 88, 89, 90, 91, 92, 93, 94, 95, 96, 97, 98, 99] rfl (by decide +kernel)
set_option maxRecDepth 20000 in
theorem gX7_getsIn_X7_goalFrom : GoodIn wsX7_getsIn (wsV RX7 130 RX7 yX7_goalFrom wsX7_goalFrom) := goodIn_app (goodIn_of _ (by decide +kernel)) ggX7_getsIn_X7_goalFrom
set_option maxRecDepth 20000 in
theorem ggX7_getsIn_X3_startOf : GoodIn wsX7_getsIn wsX3_startOf := goodIn_r _ [25, 26, 104, 105, 106, 107, 108, 109, 110, 111, 112, 113] rfl (by decide +kernel)
set_option maxRecDepth 20000 in
theorem gX7_getsIn_X3_startOf : GoodIn wsX7_getsIn (wsV RX7 107 RX3 yX3_startOf wsX3_startOf) := goodIn_app (goodIn_of _ (by decide +kernel)) ggX7_getsIn_X3_startOf
set_option maxRecDepth 20000 in
theorem ggX7_getsIn_X6_worth : GoodIn wsX7_getsIn wsX6_worth := goodIn_r _ [68, 69, 70, 71, 72, 73, 74, 75, 76, 77, 67, 78, 100, 101, 102, 103] rfl (by decide +kernel)
set_option maxRecDepth 20000 in
theorem gX7_getsIn_X6_worth : GoodIn wsX7_getsIn (wsV RX7 96 RX6 yX6_worth wsX6_worth) := goodIn_app (goodIn_of _ (by decide +kernel)) ggX7_getsIn_X6_worth
set_option maxRecDepth 20000 in
theorem ggX7_getsIn_X2_learn : GoodIn wsX7_getsIn wsX2_learn := goodIn_r _ [82, 41, 32, 33, 34, 35, 30, 36, 114, 115, 116] rfl (by decide +kernel)
set_option maxRecDepth 20000 in
theorem gX7_getsIn_X2_learn : GoodIn wsX7_getsIn (wsV RX7 100 RX2 yX2_learn wsX2_learn) := goodIn_app (goodIn_of _ (by decide +kernel)) ggX7_getsIn_X2_learn
theorem dX7_getsIn_0 : decode cX7_getsIn 0 = .ok (.aload_n 0, 1) := by decide +kernel
theorem dX7_getsIn_1 : decode cX7_getsIn 1 = .ok (.getfield 47, 3) := by decide +kernel
theorem dX7_getsIn_4 : decode cX7_getsIn 4 = .ok (.ifnonnull 9, 3) := by decide +kernel
theorem dX7_getsIn_7 : decode cX7_getsIn 7 = .ok (.aload_n 0, 1) := by decide +kernel
theorem dX7_getsIn_8 : decode cX7_getsIn 8 = .ok (.iload_n 1, 1) := by decide +kernel
theorem dX7_getsIn_9 : decode cX7_getsIn 9 = .ok (.invokevirtual 122, 3) := by decide +kernel
theorem dX7_getsIn_12 : decode cX7_getsIn 12 = .ok (.ireturn, 1) := by decide +kernel
theorem dX7_getsIn_13 : decode cX7_getsIn 13 = .ok (.iload_n 2, 1) := by decide +kernel
theorem dX7_getsIn_14 : decode cX7_getsIn 14 = .ok (.bipush 60, 2) := by decide +kernel
theorem dX7_getsIn_16 : decode cX7_getsIn 16 = .ok (.idiv, 1) := by decide +kernel
theorem dX7_getsIn_17 : decode cX7_getsIn 17 = .ok (.istore 4, 2) := by decide +kernel
theorem dX7_getsIn_19 : decode cX7_getsIn 19 = .ok (.aload_n 0, 1) := by decide +kernel
theorem dX7_getsIn_20 : decode cX7_getsIn 20 = .ok (.getfield 47, 3) := by decide +kernel
theorem dX7_getsIn_23 : decode cX7_getsIn 23 = .ok (.getfield 126, 3) := by decide +kernel
theorem dX7_getsIn_26 : decode cX7_getsIn 26 = .ok (.ifCond .ne 35, 3) := by decide +kernel
theorem dX7_getsIn_29 : decode cX7_getsIn 29 = .ok (.aload_n 0, 1) := by decide +kernel
theorem dX7_getsIn_30 : decode cX7_getsIn 30 = .ok (.getfield 34, 3) := by decide +kernel
theorem dX7_getsIn_33 : decode cX7_getsIn 33 = .ok (.iload_n 1, 1) := by decide +kernel
theorem dX7_getsIn_34 : decode cX7_getsIn 34 = .ok (.iload 4, 2) := by decide +kernel
theorem dX7_getsIn_36 : decode cX7_getsIn 36 = .ok (.invokevirtual 84, 3) := by decide +kernel
theorem dX7_getsIn_39 : decode cX7_getsIn 39 = .ok (.ifCond .eq 22, 3) := by decide +kernel
theorem dX7_getsIn_42 : decode cX7_getsIn 42 = .ok (.aload_n 0, 1) := by decide +kernel
theorem dX7_getsIn_43 : decode cX7_getsIn 43 = .ok (.getfield 34, 3) := by decide +kernel
theorem dX7_getsIn_46 : decode cX7_getsIn 46 = .ok (.iload_n 1, 1) := by decide +kernel
theorem dX7_getsIn_47 : decode cX7_getsIn 47 = .ok (.iload 4, 2) := by decide +kernel
theorem dX7_getsIn_49 : decode cX7_getsIn 49 = .ok (.invokevirtual 104, 3) := by decide +kernel
theorem dX7_getsIn_52 : decode cX7_getsIn 52 = .ok (.ifCond .eq 7, 3) := by decide +kernel
theorem dX7_getsIn_55 : decode cX7_getsIn 55 = .ok (.iconst 1, 1) := by decide +kernel
theorem dX7_getsIn_56 : decode cX7_getsIn 56 = .ok (.goto 4, 3) := by decide +kernel
theorem dX7_getsIn_59 : decode cX7_getsIn 59 = .ok (.iconst 0, 1) := by decide +kernel
theorem dX7_getsIn_60 : decode cX7_getsIn 60 = .ok (.ireturn, 1) := by decide +kernel
theorem dX7_getsIn_61 : decode cX7_getsIn 61 = .ok (.aload_n 0, 1) := by decide +kernel
theorem dX7_getsIn_62 : decode cX7_getsIn 62 = .ok (.iload_n 1, 1) := by decide +kernel
theorem dX7_getsIn_63 : decode cX7_getsIn 63 = .ok (.iload 4, 2) := by decide +kernel
theorem dX7_getsIn_65 : decode cX7_getsIn 65 = .ok (.invokevirtual 92, 3) := by decide +kernel
theorem dX7_getsIn_68 : decode cX7_getsIn 68 = .ok (.aload_n 0, 1) := by decide +kernel
theorem dX7_getsIn_69 : decode cX7_getsIn 69 = .ok (.getfield 24, 3) := by decide +kernel
theorem dX7_getsIn_72 : decode cX7_getsIn 72 = .ok (.bipush 7, 2) := by decide +kernel
theorem dX7_getsIn_74 : decode cX7_getsIn 74 = .ok (.aload_n 0, 1) := by decide +kernel
theorem dX7_getsIn_75 : decode cX7_getsIn 75 = .ok (.aload_n 0, 1) := by decide +kernel
theorem dX7_getsIn_76 : decode cX7_getsIn 76 = .ok (.getfield 12, 3) := by decide +kernel
theorem dX7_getsIn_79 : decode cX7_getsIn 79 = .ok (.iload_n 1, 1) := by decide +kernel
theorem dX7_getsIn_80 : decode cX7_getsIn 80 = .ok (.invokevirtual 113, 3) := by decide +kernel
theorem dX7_getsIn_83 : decode cX7_getsIn 83 = .ok (.invokevirtual 130, 3) := by decide +kernel
theorem dX7_getsIn_86 : decode cX7_getsIn 86 = .ok (.iastore, 1) := by decide +kernel
theorem dX7_getsIn_87 : decode cX7_getsIn 87 = .ok (.aload_n 0, 1) := by decide +kernel
theorem dX7_getsIn_88 : decode cX7_getsIn 88 = .ok (.getfield 24, 3) := by decide +kernel
theorem dX7_getsIn_91 : decode cX7_getsIn 91 = .ok (.bipush 8, 2) := by decide +kernel
theorem dX7_getsIn_93 : decode cX7_getsIn 93 = .ok (.aload_n 0, 1) := by decide +kernel
theorem dX7_getsIn_94 : decode cX7_getsIn 94 = .ok (.aload_n 0, 1) := by decide +kernel
theorem dX7_getsIn_95 : decode cX7_getsIn 95 = .ok (.getfield 12, 3) := by decide +kernel
theorem dX7_getsIn_98 : decode cX7_getsIn 98 = .ok (.iload_n 1, 1) := by decide +kernel
theorem dX7_getsIn_99 : decode cX7_getsIn 99 = .ok (.invokevirtual 107, 3) := by decide +kernel
theorem dX7_getsIn_102 : decode cX7_getsIn 102 = .ok (.invokevirtual 130, 3) := by decide +kernel
theorem dX7_getsIn_105 : decode cX7_getsIn 105 = .ok (.iastore, 1) := by decide +kernel
theorem dX7_getsIn_106 : decode cX7_getsIn 106 = .ok (.aload_n 0, 1) := by decide +kernel
theorem dX7_getsIn_107 : decode cX7_getsIn 107 = .ok (.getfield 24, 3) := by decide +kernel
theorem dX7_getsIn_110 : decode cX7_getsIn 110 = .ok (.bipush 9, 2) := by decide +kernel
theorem dX7_getsIn_112 : decode cX7_getsIn 112 = .ok (.iload_n 3, 1) := by decide +kernel
theorem dX7_getsIn_113 : decode cX7_getsIn 113 = .ok (.iastore, 1) := by decide +kernel
theorem dX7_getsIn_114 : decode cX7_getsIn 114 = .ok (.aload_n 0, 1) := by decide +kernel
theorem dX7_getsIn_115 : decode cX7_getsIn 115 = .ok (.getfield 47, 3) := by decide +kernel
theorem dX7_getsIn_118 : decode cX7_getsIn 118 = .ok (.aload_n 0, 1) := by decide +kernel
theorem dX7_getsIn_119 : decode cX7_getsIn 119 = .ok (.getfield 24, 3) := by decide +kernel
theorem dX7_getsIn_122 : decode cX7_getsIn 122 = .ok (.invokevirtual 96, 3) := by decide +kernel
theorem dX7_getsIn_125 : decode cX7_getsIn 125 = .ok (.istore 5, 2) := by decide +kernel
theorem dX7_getsIn_127 : decode cX7_getsIn 127 = .ok (.aload_n 0, 1) := by decide +kernel
theorem dX7_getsIn_128 : decode cX7_getsIn 128 = .ok (.getfield 34, 3) := by decide +kernel
theorem dX7_getsIn_131 : decode cX7_getsIn 131 = .ok (.iload_n 1, 1) := by decide +kernel
theorem dX7_getsIn_132 : decode cX7_getsIn 132 = .ok (.iload 4, 2) := by decide +kernel
theorem dX7_getsIn_134 : decode cX7_getsIn 134 = .ok (.iload 5, 2) := by decide +kernel
theorem dX7_getsIn_136 : decode cX7_getsIn 136 = .ok (.invokevirtual 100, 3) := by decide +kernel
theorem dX7_getsIn_139 : decode cX7_getsIn 139 = .ok (.iload 5, 2) := by decide +kernel
theorem dX7_getsIn_141 : decode cX7_getsIn 141 = .ok (.ifCond .eq 7, 3) := by decide +kernel
theorem dX7_getsIn_144 : decode cX7_getsIn 144 = .ok (.iconst 1, 1) := by decide +kernel
theorem dX7_getsIn_145 : decode cX7_getsIn 145 = .ok (.goto 4, 3) := by decide +kernel
theorem dX7_getsIn_148 : decode cX7_getsIn 148 = .ok (.iconst 0, 1) := by decide +kernel
theorem dX7_getsIn_149 : decode cX7_getsIn 149 = .ok (.ireturn, 1) := by decide +kernel
theorem dX7_goalFrom_0 : decode cX7_goalFrom 0 = .ok (.iload_n 1, 1) := by decide +kernel
theorem dX7_goalFrom_1 : decode cX7_goalFrom 1 = .ok (.ifCond .lt 18, 3) := by decide +kernel
theorem dX7_goalFrom_4 : decode cX7_goalFrom 4 = .ok (.iload_n 1, 1) := by decide +kernel
theorem dX7_goalFrom_5 : decode cX7_goalFrom 5 = .ok (.bipush 8, 2) := by decide +kernel
theorem dX7_goalFrom_7 : decode cX7_goalFrom 7 = .ok (.if_icmp .ge 12, 3) := by decide +kernel
theorem dX7_goalFrom_10 : decode cX7_goalFrom 10 = .ok (.aload_n 0, 1) := by decide +kernel
theorem dX7_goalFrom_11 : decode cX7_goalFrom 11 = .ok (.getfield 18, 3) := by decide +kernel
theorem dX7_goalFrom_14 : decode cX7_goalFrom 14 = .ok (.iload_n 1, 1) := by decide +kernel
theorem dX7_goalFrom_15 : decode cX7_goalFrom 15 = .ok (.iaload, 1) := by decide +kernel
theorem dX7_goalFrom_16 : decode cX7_goalFrom 16 = .ok (.goto 6, 3) := by decide +kernel
theorem dX7_goalFrom_19 : decode cX7_goalFrom 19 = .ok (.sipush 9999, 3) := by decide +kernel
theorem dX7_goalFrom_22 : decode cX7_goalFrom 22 = .ok (.ireturn, 1) := by decide +kernel
set_option maxRecDepth 20000 in
theorem ggX7_leadsNearer_X3_endOf : GoodIn wsX7_leadsNearer wsX3_endOf := goodIn_r _ [6, 7, 36, 37, 38, 39, 40, 41, 42, 43, 44, 45] rfl (by decide +kernel)
set_option maxRecDepth 20000 in
theorem gX7_leadsNearer_X3_endOf : GoodIn wsX7_leadsNearer (wsV RX7 113 RX3 yX3_endOf wsX3_endOf) := goodIn_app (goodIn_of _ (by decide +kernel)) ggX7_leadsNearer_X3_endOf
set_option maxRecDepth 20000 in
theorem ggX7_leadsNearer_X7_goalFrom : GoodIn wsX7_leadsNearer wsX7_goalFrom := goodIn_r _ [12, 13, 19, 20, 21, 22, 23, 24, 25, 26, 27, 28, 29, 30, 31, 32, 33, 34, 35] rfl (by decide +kernel)
set_option maxRecDepth 20000 in
theorem gX7_leadsNearer_X7_goalFrom : GoodIn wsX7_leadsNearer (wsV RX7 130 RX7 yX7_goalFrom wsX7_goalFrom) := goodIn_app (goodIn_of _ (by decide +kernel)) ggX7_leadsNearer_X7_goalFrom
set_option maxRecDepth 20000 in
theorem ggX7_leadsNearer_X3_startOf : GoodIn wsX7_leadsNearer wsX3_startOf := goodIn_r _ [17, 18, 36, 37, 38, 39, 40, 41, 42, 43, 44, 45] rfl (by decide +kernel)
set_option maxRecDepth 20000 in
theorem gX7_leadsNearer_X3_startOf : GoodIn wsX7_leadsNearer (wsV RX7 107 RX3 yX3_startOf wsX3_startOf) := goodIn_app (goodIn_of _ (by decide +kernel)) ggX7_leadsNearer_X3_startOf
theorem dX7_leadsNearer_0 : decode cX7_leadsNearer 0 = .ok (.aload_n 0, 1) := by decide +kernel
theorem dX7_leadsNearer_1 : decode cX7_leadsNearer 1 = .ok (.aload_n 0, 1) := by decide +kernel
theorem dX7_leadsNearer_2 : decode cX7_leadsNearer 2 = .ok (.getfield 12, 3) := by decide +kernel
theorem dX7_leadsNearer_5 : decode cX7_leadsNearer 5 = .ok (.iload_n 1, 1) := by decide +kernel
theorem dX7_leadsNearer_6 : decode cX7_leadsNearer 6 = .ok (.invokevirtual 113, 3) := by decide +kernel
theorem dX7_leadsNearer_9 : decode cX7_leadsNearer 9 = .ok (.invokevirtual 130, 3) := by decide +kernel
theorem dX7_leadsNearer_12 : decode cX7_leadsNearer 12 = .ok (.aload_n 0, 1) := by decide +kernel
theorem dX7_leadsNearer_13 : decode cX7_leadsNearer 13 = .ok (.aload_n 0, 1) := by decide +kernel
theorem dX7_leadsNearer_14 : decode cX7_leadsNearer 14 = .ok (.getfield 12, 3) := by decide +kernel
theorem dX7_leadsNearer_17 : decode cX7_leadsNearer 17 = .ok (.iload_n 1, 1) := by decide +kernel
theorem dX7_leadsNearer_18 : decode cX7_leadsNearer 18 = .ok (.invokevirtual 107, 3) := by decide +kernel
theorem dX7_leadsNearer_21 : decode cX7_leadsNearer 21 = .ok (.invokevirtual 130, 3) := by decide +kernel
theorem dX7_leadsNearer_24 : decode cX7_leadsNearer 24 = .ok (.if_icmp .ge 7, 3) := by decide +kernel
theorem dX7_leadsNearer_27 : decode cX7_leadsNearer 27 = .ok (.iconst 1, 1) := by decide +kernel
theorem dX7_leadsNearer_28 : decode cX7_leadsNearer 28 = .ok (.goto 4, 3) := by decide +kernel
theorem dX7_leadsNearer_31 : decode cX7_leadsNearer 31 = .ok (.iconst 0, 1) := by decide +kernel
theorem dX7_leadsNearer_32 : decode cX7_leadsNearer 32 = .ok (.ireturn, 1) := by decide +kernel
set_option maxRecDepth 20000 in
theorem ggX7_mayTake_X3_startOf : GoodIn wsX7_mayTake wsX3_startOf := goodIn_r _ [8, 9, 47, 48, 49, 50, 51, 52, 53, 54, 55, 56] rfl (by decide +kernel)
set_option maxRecDepth 20000 in
theorem gX7_mayTake_X3_startOf : GoodIn wsX7_mayTake (wsV RX7 107 RX3 yX3_startOf wsX3_startOf) := goodIn_app (goodIn_of _ (by decide +kernel)) ggX7_mayTake_X3_startOf
set_option maxRecDepth 20000 in
theorem ggX7_mayTake_X3_dangerOf : GoodIn wsX7_mayTake wsX3_dangerOf := goodIn_r _ [13, 14, 47, 48, 49, 50, 51, 52, 53, 54, 55, 56] rfl (by decide +kernel)
set_option maxRecDepth 20000 in
theorem gX7_mayTake_X3_dangerOf : GoodIn wsX7_mayTake (wsV RX7 119 RX3 yX3_dangerOf wsX3_dangerOf) := goodIn_app (goodIn_of _ (by decide +kernel)) ggX7_mayTake_X3_dangerOf
set_option maxRecDepth 20000 in
theorem ggX7_mayTake_X7_leadsNearer : GoodIn wsX7_mayTake wsX7_leadsNearer := goodIn_r _ [19, 1, 20, 21, 22, 7, 23, 24, 25, 26, 27, 18, 28, 29, 4, 5, 6, 8, 9, 30, 31, 32, 33, 34, 35, 36, 37, 38, 39, 40, 41, 42, 43, 44, 45, 46, 47, 48, 49, 50, 51, 52, 53, 54, 55, 56] rfl (by decide +kernel)
set_option maxRecDepth 20000 in
theorem gX7_mayTake_X7_leadsNearer : GoodIn wsX7_mayTake (wsV RX7 122 RX7 yX7_leadsNearer wsX7_leadsNearer) := goodIn_app (goodIn_of _ (by decide +kernel)) ggX7_mayTake_X7_leadsNearer
theorem dX7_mayTake_0 : decode cX7_mayTake 0 = .ok (.aload_n 0, 1) := by decide +kernel
theorem dX7_mayTake_1 : decode cX7_mayTake 1 = .ok (.getfield 12, 3) := by decide +kernel
theorem dX7_mayTake_4 : decode cX7_mayTake 4 = .ok (.iload_n 1, 1) := by decide +kernel
theorem dX7_mayTake_5 : decode cX7_mayTake 5 = .ok (.invokevirtual 107, 3) := by decide +kernel
theorem dX7_mayTake_8 : decode cX7_mayTake 8 = .ok (.iload_n 2, 1) := by decide +kernel
theorem dX7_mayTake_9 : decode cX7_mayTake 9 = .ok (.if_icmp .ne 37, 3) := by decide +kernel
theorem dX7_mayTake_12 : decode cX7_mayTake 12 = .ok (.aload_n 0, 1) := by decide +kernel
theorem dX7_mayTake_13 : decode cX7_mayTake 13 = .ok (.getfield 12, 3) := by decide +kernel
theorem dX7_mayTake_16 : decode cX7_mayTake 16 = .ok (.iload_n 1, 1) := by decide +kernel
theorem dX7_mayTake_17 : decode cX7_mayTake 17 = .ok (.invokevirtual 119, 3) := by decide +kernel
theorem dX7_mayTake_20 : decode cX7_mayTake 20 = .ok (.aload_n 0, 1) := by decide +kernel
theorem dX7_mayTake_21 : decode cX7_mayTake 21 = .ok (.getfield 66, 3) := by decide +kernel
theorem dX7_mayTake_24 : decode cX7_mayTake 24 = .ok (.if_icmp .gt 22, 3) := by decide +kernel
theorem dX7_mayTake_27 : decode cX7_mayTake 27 = .ok (.aload_n 0, 1) := by decide +kernel
theorem dX7_mayTake_28 : decode cX7_mayTake 28 = .ok (.getfield 47, 3) := by decide +kernel
theorem dX7_mayTake_31 : decode cX7_mayTake 31 = .ok (.ifnonnull 11, 3) := by decide +kernel
theorem dX7_mayTake_34 : decode cX7_mayTake 34 = .ok (.aload_n 0, 1) := by decide +kernel
theorem dX7_mayTake_35 : decode cX7_mayTake 35 = .ok (.iload_n 1, 1) := by decide +kernel
theorem dX7_mayTake_36 : decode cX7_mayTake 36 = .ok (.invokevirtual 122, 3) := by decide +kernel
theorem dX7_mayTake_39 : decode cX7_mayTake 39 = .ok (.ifCond .eq 7, 3) := by decide +kernel
theorem dX7_mayTake_42 : decode cX7_mayTake 42 = .ok (.iconst 1, 1) := by decide +kernel
theorem dX7_mayTake_43 : decode cX7_mayTake 43 = .ok (.goto 4, 3) := by decide +kernel
theorem dX7_mayTake_46 : decode cX7_mayTake 46 = .ok (.iconst 0, 1) := by decide +kernel
theorem dX7_mayTake_47 : decode cX7_mayTake 47 = .ok (.ireturn, 1) := by decide +kernel
set_option maxRecDepth 20000 in
theorem ggX7_nextStop_X3_cars : GoodIn wsX7_nextStop wsX3_cars := goodIn_r _ [6, 7, 8, 9, 5, 10, 11, 117, 118, 119, 120, 121, 122, 123, 124, 125, 126] rfl (by decide +kernel)
set_option maxRecDepth 20000 in
theorem gX7_nextStop_X3_cars : GoodIn wsX7_nextStop (wsV RX7 133 RX3 yX3_cars wsX3_cars) := goodIn_app (goodIn_of _ (by decide +kernel)) ggX7_nextStop_X3_cars
set_option maxRecDepth 20000 in
theorem ggX7_nextStop_X3_passes : GoodIn wsX7_nextStop wsX3_passes := goodIn_r _ [15, 7, 8, 9, 5, 10, 11, 117, 118, 119, 120, 121, 122, 123, 124, 125, 126] rfl (by decide +kernel)
set_option maxRecDepth 20000 in
theorem gX7_nextStop_X3_passes : GoodIn wsX7_nextStop (wsV RX7 78 RX3 yX3_passes wsX3_passes) := goodIn_app (goodIn_of _ (by decide +kernel)) ggX7_nextStop_X3_passes
set_option maxRecDepth 20000 in
theorem ggX7_nextStop_X7_bar : GoodIn wsX7_nextStop wsX7_bar := goodIn_r _ [20, 21, 22, 23, 24, 25, 26, 27, 28, 29, 30, 31, 32, 33, 34, 35, 36, 19, 37, 1, 38, 39, 40, 41, 42, 43, 5, 44, 45, 46, 47, 48, 49, 50, 51, 52, 53, 54, 55, 56, 57, 58, 59, 60, 61, 62, 63, 64, 65, 66, 67, 68, 69, 70, 71, 72, 73, 74, 75, 76, 77, 78, 79, 80, 81, 82, 83, 84, 85, 86, 87, 88, 89, 90, 91, 92, 93, 100, 101, 102, 103, 104, 105, 106, 107, 108, 109, 110, 111, 112, 113, 114, 115, 116, 127, 128, 129, 117, 118, 119, 120, 121, 122, 123, 124, 125, 126, 130, 131, 132, 133] rfl (by decide +kernel)
set_option maxRecDepth 20000 in
theorem gX7_nextStop_X7_bar : GoodIn wsX7_nextStop (wsV RX7 81 RX7 yX7_bar wsX7_bar) := goodIn_app (goodIn_of _ (by decide +kernel)) ggX7_nextStop_X7_bar
set_option maxRecDepth 20000 in
theorem ggX7_nextStop_X7_draw : GoodIn wsX7_nextStop wsX7_draw := goodIn_r _ [97, 98, 99, 100, 101, 102, 103, 104, 105, 106, 107, 108, 109, 110, 111, 112, 113, 114, 115, 116] rfl (by decide +kernel)
set_option maxRecDepth 20000 in
theorem gX7_nextStop_X7_draw : GoodIn wsX7_nextStop (wsV RX7 74 RX7 yX7_draw wsX7_draw) := goodIn_app (goodIn_of _ (by decide +kernel)) ggX7_nextStop_X7_draw
theorem dX7_nextStop_0 : decode cX7_nextStop 0 = .ok (.aload_n 0, 1) := by decide +kernel
theorem dX7_nextStop_1 : decode cX7_nextStop 1 = .ok (.getfield 12, 3) := by decide +kernel
theorem dX7_nextStop_4 : decode cX7_nextStop 4 = .ok (.iload_n 1, 1) := by decide +kernel
theorem dX7_nextStop_5 : decode cX7_nextStop 5 = .ok (.invokevirtual 133, 3) := by decide +kernel
theorem dX7_nextStop_8 : decode cX7_nextStop 8 = .ok (.istore 4, 2) := by decide +kernel
theorem dX7_nextStop_10 : decode cX7_nextStop 10 = .ok (.iconst (-1), 1) := by decide +kernel
theorem dX7_nextStop_11 : decode cX7_nextStop 11 = .ok (.istore 5, 2) := by decide +kernel
theorem dX7_nextStop_13 : decode cX7_nextStop 13 = .ok (.iconst 0, 1) := by decide +kernel
theorem dX7_nextStop_14 : decode cX7_nextStop 14 = .ok (.istore 6, 2) := by decide +kernel
theorem dX7_nextStop_16 : decode cX7_nextStop 16 = .ok (.iload_n 2, 1) := by decide +kernel
theorem dX7_nextStop_17 : decode cX7_nextStop 17 = .ok (.istore 7, 2) := by decide +kernel
theorem dX7_nextStop_19 : decode cX7_nextStop 19 = .ok (.iload 7, 2) := by decide +kernel
theorem dX7_nextStop_21 : decode cX7_nextStop 21 = .ok (.iload 4, 2) := by decide +kernel
theorem dX7_nextStop_23 : decode cX7_nextStop 23 = .ok (.if_icmp .ge 70, 3) := by decide +kernel
theorem dX7_nextStop_26 : decode cX7_nextStop 26 = .ok (.aload_n 0, 1) := by decide +kernel
theorem dX7_nextStop_27 : decode cX7_nextStop 27 = .ok (.getfield 12, 3) := by decide +kernel
theorem dX7_nextStop_30 : decode cX7_nextStop 30 = .ok (.iload_n 1, 1) := by decide +kernel
theorem dX7_nextStop_31 : decode cX7_nextStop 31 = .ok (.iload 7, 2) := by decide +kernel
theorem dX7_nextStop_33 : decode cX7_nextStop 33 = .ok (.invokevirtual 78, 3) := by decide +kernel
theorem dX7_nextStop_36 : decode cX7_nextStop 36 = .ok (.istore 8, 2) := by decide +kernel
theorem dX7_nextStop_38 : decode cX7_nextStop 38 = .ok (.iload 8, 2) := by decide +kernel
theorem dX7_nextStop_40 : decode cX7_nextStop 40 = .ok (.iload_n 3, 1) := by decide +kernel
theorem dX7_nextStop_41 : decode cX7_nextStop 41 = .ok (.if_icmp .lt 5, 3) := by decide +kernel
theorem dX7_nextStop_44 : decode cX7_nextStop 44 = .ok (.iconst (-1), 1) := by decide +kernel
theorem dX7_nextStop_45 : decode cX7_nextStop 45 = .ok (.ireturn, 1) := by decide +kernel
theorem dX7_nextStop_46 : decode cX7_nextStop 46 = .ok (.iload 8, 2) := by decide +kernel
theorem dX7_nextStop_48 : decode cX7_nextStop 48 = .ok (.bipush 60, 2) := by decide +kernel
theorem dX7_nextStop_50 : decode cX7_nextStop 50 = .ok (.idiv, 1) := by decide +kernel
theorem dX7_nextStop_51 : decode cX7_nextStop 51 = .ok (.iload 5, 2) := by decide +kernel
theorem dX7_nextStop_53 : decode cX7_nextStop 53 = .ok (.if_icmp .eq 19, 3) := by decide +kernel
theorem dX7_nextStop_56 : decode cX7_nextStop 56 = .ok (.iload 8, 2) := by decide +kernel
theorem dX7_nextStop_58 : decode cX7_nextStop 58 = .ok (.bipush 60, 2) := by decide +kernel
theorem dX7_nextStop_60 : decode cX7_nextStop 60 = .ok (.idiv, 1) := by decide +kernel
theorem dX7_nextStop_61 : decode cX7_nextStop 61 = .ok (.istore 5, 2) := by decide +kernel
theorem dX7_nextStop_63 : decode cX7_nextStop 63 = .ok (.aload_n 0, 1) := by decide +kernel
theorem dX7_nextStop_64 : decode cX7_nextStop 64 = .ok (.iload_n 1, 1) := by decide +kernel
theorem dX7_nextStop_65 : decode cX7_nextStop 65 = .ok (.iload 5, 2) := by decide +kernel
theorem dX7_nextStop_67 : decode cX7_nextStop 67 = .ok (.invokevirtual 81, 3) := by decide +kernel
theorem dX7_nextStop_70 : decode cX7_nextStop 70 = .ok (.istore 6, 2) := by decide +kernel
theorem dX7_nextStop_72 : decode cX7_nextStop 72 = .ok (.aload_n 0, 1) := by decide +kernel
theorem dX7_nextStop_73 : decode cX7_nextStop 73 = .ok (.iload_n 1, 1) := by decide +kernel
theorem dX7_nextStop_74 : decode cX7_nextStop 74 = .ok (.iload 7, 2) := by decide +kernel
theorem dX7_nextStop_76 : decode cX7_nextStop 76 = .ok (.invokevirtual 74, 3) := by decide +kernel
theorem dX7_nextStop_79 : decode cX7_nextStop 79 = .ok (.iload 6, 2) := by decide +kernel
theorem dX7_nextStop_81 : decode cX7_nextStop 81 = .ok (.if_icmp .ge 6, 3) := by decide +kernel
theorem dX7_nextStop_84 : decode cX7_nextStop 84 = .ok (.iload 7, 2) := by decide +kernel
theorem dX7_nextStop_86 : decode cX7_nextStop 86 = .ok (.ireturn, 1) := by decide +kernel
theorem dX7_nextStop_87 : decode cX7_nextStop 87 = .ok (.iinc 7 1, 3) := by decide +kernel
theorem dX7_nextStop_90 : decode cX7_nextStop 90 = .ok (.goto (-71), 3) := by decide +kernel
theorem dX7_nextStop_93 : decode cX7_nextStop 93 = .ok (.iconst (-1), 1) := by decide +kernel
theorem dX7_nextStop_94 : decode cX7_nextStop 94 = .ok (.ireturn, 1) := by decide +kernel
set_option maxRecDepth 20000 in
theorem ggX7_stopAfter_X3_startOf : GoodIn wsX7_stopAfter wsX3_startOf := goodIn_r _ [9, 10, 132, 133, 134, 135, 136, 137, 138, 139, 140, 141] rfl (by decide +kernel)
set_option maxRecDepth 20000 in
theorem gX7_stopAfter_X3_startOf : GoodIn wsX7_stopAfter (wsV RX7 107 RX3 yX3_startOf wsX3_startOf) := goodIn_app (goodIn_of _ (by decide +kernel)) ggX7_stopAfter_X3_startOf
set_option maxRecDepth 20000 in
theorem ggX7_stopAfter_X3_firstCarSince : GoodIn wsX7_stopAfter wsX3_firstCarSince := goodIn_r _ [14, 15, 16, 17, 8, 18, 19, 132, 133, 134, 135, 136, 137, 138, 139, 140, 141] rfl (by decide +kernel)
set_option maxRecDepth 20000 in
theorem gX7_stopAfter_X3_firstCarSince : GoodIn wsX7_stopAfter (wsV RX7 140 RX3 yX3_firstCarSince wsX3_firstCarSince) := goodIn_app (goodIn_of _ (by decide +kernel)) ggX7_stopAfter_X3_firstCarSince
set_option maxRecDepth 20000 in
theorem ggX7_stopAfter_X7_nextStop : GoodIn wsX7_stopAfter wsX7_nextStop := goodIn_r _ [24, 2, 25, 26, 27, 8, 28, 15, 16, 17, 18, 19, 29, 30, 31, 32, 33, 34, 35, 23, 36, 37, 38, 39, 40, 41, 42, 43, 44, 45, 46, 47, 48, 49, 50, 51, 52, 53, 54, 55, 56, 5, 6, 7, 9, 10, 57, 58, 59, 60, 61, 62, 63, 64, 65, 66, 67, 68, 69, 70, 71, 72, 73, 74, 75, 76, 77, 78, 79, 80, 81, 82, 83, 84, 85, 86, 87, 88, 89, 90, 91, 92, 93, 94, 95, 96, 97, 98, 99, 100, 101, 102, 103, 104, 105, 106, 107, 108, 109, 110, 115, 116, 117, 118, 119, 120, 121, 122, 123, 124, 125, 126, 127, 128, 129, 130, 131, 132, 133, 134, 135, 136, 137, 138, 139, 140, 141, 142, 143, 144, 145, 146, 147, 148] rfl (by decide +kernel)
set_option maxRecDepth 20000 in
theorem gX7_stopAfter_X7_nextStop : GoodIn wsX7_stopAfter (wsV RX7 143 RX7 yX7_nextStop wsX7_nextStop) := goodIn_app (goodIn_of _ (by decide +kernel)) ggX7_stopAfter_X7_nextStop
set_option maxRecDepth 20000 in
theorem ggX7_stopAfter_X3_passes : GoodIn wsX7_stopAfter wsX3_passes := goodIn_r _ [32, 15, 16, 17, 8, 18, 19, 132, 133, 134, 135, 136, 137, 138, 139, 140, 141] rfl (by decide +kernel)
set_option maxRecDepth 20000 in
theorem gX7_stopAfter_X3_passes : GoodIn wsX7_stopAfter (wsV RX7 78 RX3 yX3_passes wsX3_passes) := goodIn_app (goodIn_of _ (by decide +kernel)) ggX7_stopAfter_X3_passes
set_option maxRecDepth 20000 in
theorem ggX7_stopAfter_X7_insertStop : GoodIn wsX7_stopAfter wsX7_insertStop := goodIn_r _ [114, 4, 115, 116, 117, 118, 119, 120, 121, 122, 123, 124, 125, 126, 127, 128, 129, 130, 131] rfl (by decide +kernel)
set_option maxRecDepth 20000 in
theorem gX7_stopAfter_X7_insertStop : GoodIn wsX7_stopAfter (wsV RX7 147 RX7 yX7_insertStop wsX7_insertStop) := goodIn_app (goodIn_of _ (by decide +kernel)) ggX7_stopAfter_X7_insertStop
theorem dX7_stopAfter_0 : decode cX7_stopAfter 0 = .ok (.iload_n 3, 1) := by decide +kernel
theorem dX7_stopAfter_1 : decode cX7_stopAfter 1 = .ok (.iconst 1, 1) := by decide +kernel
theorem dX7_stopAfter_2 : decode cX7_stopAfter 2 = .ok (.if_icmp .lt 9, 3) := by decide +kernel
theorem dX7_stopAfter_5 : decode cX7_stopAfter 5 = .ok (.iload_n 3, 1) := by decide +kernel
theorem dX7_stopAfter_6 : decode cX7_stopAfter 6 = .ok (.bipush 9, 2) := by decide +kernel
theorem dX7_stopAfter_8 : decode cX7_stopAfter 8 = .ok (.if_icmp .le 6, 3) := by decide +kernel
theorem dX7_stopAfter_11 : decode cX7_stopAfter 11 = .ok (.ldc 136, 2) := by decide +kernel
theorem dX7_stopAfter_13 : decode cX7_stopAfter 13 = .ok (.ireturn, 1) := by decide +kernel
theorem dX7_stopAfter_14 : decode cX7_stopAfter 14 = .ok (.iconst 0, 1) := by decide +kernel
theorem dX7_stopAfter_15 : decode cX7_stopAfter 15 = .ok (.istore 4, 2) := by decide +kernel
theorem dX7_stopAfter_17 : decode cX7_stopAfter 17 = .ok (.sipush 1440, 3) := by decide +kernel
theorem dX7_stopAfter_20 : decode cX7_stopAfter 20 = .ok (.istore 5, 2) := by decide +kernel
theorem dX7_stopAfter_22 : decode cX7_stopAfter 22 = .ok (.iconst 0, 1) := by decide +kernel
theorem dX7_stopAfter_23 : decode cX7_stopAfter 23 = .ok (.istore 6, 2) := by decide +kernel
theorem dX7_stopAfter_25 : decode cX7_stopAfter 25 = .ok (.iload 6, 2) := by decide +kernel
theorem dX7_stopAfter_27 : decode cX7_stopAfter 27 = .ok (.aload_n 0, 1) := by decide +kernel
theorem dX7_stopAfter_28 : decode cX7_stopAfter 28 = .ok (.getfield 12, 3) := by decide +kernel
theorem dX7_stopAfter_31 : decode cX7_stopAfter 31 = .ok (.getfield 137, 3) := by decide +kernel
theorem dX7_stopAfter_34 : decode cX7_stopAfter 34 = .ok (.if_icmp .ge 123, 3) := by decide +kernel
theorem dX7_stopAfter_37 : decode cX7_stopAfter 37 = .ok (.aload_n 0, 1) := by decide +kernel
theorem dX7_stopAfter_38 : decode cX7_stopAfter 38 = .ok (.getfield 12, 3) := by decide +kernel
theorem dX7_stopAfter_41 : decode cX7_stopAfter 41 = .ok (.iload 6, 2) := by decide +kernel
theorem dX7_stopAfter_43 : decode cX7_stopAfter 43 = .ok (.invokevirtual 107, 3) := by decide +kernel
theorem dX7_stopAfter_46 : decode cX7_stopAfter 46 = .ok (.iload_n 1, 1) := by decide +kernel
theorem dX7_stopAfter_47 : decode cX7_stopAfter 47 = .ok (.if_icmp .eq 6, 3) := by decide +kernel
theorem dX7_stopAfter_50 : decode cX7_stopAfter 50 = .ok (.goto 101, 3) := by decide +kernel
theorem dX7_stopAfter_53 : decode cX7_stopAfter 53 = .ok (.aload_n 0, 1) := by decide +kernel
theorem dX7_stopAfter_54 : decode cX7_stopAfter 54 = .ok (.iload 6, 2) := by decide +kernel
theorem dX7_stopAfter_56 : decode cX7_stopAfter 56 = .ok (.aload_n 0, 1) := by decide +kernel
theorem dX7_stopAfter_57 : decode cX7_stopAfter 57 = .ok (.getfield 12, 3) := by decide +kernel
theorem dX7_stopAfter_60 : decode cX7_stopAfter 60 = .ok (.iload 6, 2) := by decide +kernel
theorem dX7_stopAfter_62 : decode cX7_stopAfter 62 = .ok (.iload_n 2, 1) := by decide +kernel
theorem dX7_stopAfter_63 : decode cX7_stopAfter 63 = .ok (.invokevirtual 140, 3) := by decide +kernel
theorem dX7_stopAfter_66 : decode cX7_stopAfter 66 = .ok (.iload 5, 2) := by decide +kernel
theorem dX7_stopAfter_68 : decode cX7_stopAfter 68 = .ok (.invokevirtual 143, 3) := by decide +kernel
theorem dX7_stopAfter_71 : decode cX7_stopAfter 71 = .ok (.istore 7, 2) := by decide +kernel
theorem dX7_stopAfter_73 : decode cX7_stopAfter 73 = .ok (.iconst 0, 1) := by decide +kernel
theorem dX7_stopAfter_74 : decode cX7_stopAfter 74 = .ok (.istore 8, 2) := by decide +kernel
theorem dX7_stopAfter_76 : decode cX7_stopAfter 76 = .ok (.iload 8, 2) := by decide +kernel
theorem dX7_stopAfter_78 : decode cX7_stopAfter 78 = .ok (.sipush 1440, 3) := by decide +kernel
theorem dX7_stopAfter_81 : decode cX7_stopAfter 81 = .ok (.if_icmp .ge 70, 3) := by decide +kernel
theorem dX7_stopAfter_84 : decode cX7_stopAfter 84 = .ok (.iload 7, 2) := by decide +kernel
theorem dX7_stopAfter_86 : decode cX7_stopAfter 86 = .ok (.ifCond .lt 65, 3) := by decide +kernel
theorem dX7_stopAfter_89 : decode cX7_stopAfter 89 = .ok (.aload_n 0, 1) := by decide +kernel
theorem dX7_stopAfter_90 : decode cX7_stopAfter 90 = .ok (.aload_n 0, 1) := by decide +kernel
theorem dX7_stopAfter_91 : decode cX7_stopAfter 91 = .ok (.getfield 12, 3) := by decide +kernel
theorem dX7_stopAfter_94 : decode cX7_stopAfter 94 = .ok (.iload 6, 2) := by decide +kernel
theorem dX7_stopAfter_96 : decode cX7_stopAfter 96 = .ok (.iload 7, 2) := by decide +kernel
theorem dX7_stopAfter_98 : decode cX7_stopAfter 98 = .ok (.invokevirtual 78, 3) := by decide +kernel
theorem dX7_stopAfter_101 : decode cX7_stopAfter 101 = .ok (.iload 4, 2) := by decide +kernel
theorem dX7_stopAfter_103 : decode cX7_stopAfter 103 = .ok (.iload_n 3, 1) := by decide +kernel
theorem dX7_stopAfter_104 : decode cX7_stopAfter 104 = .ok (.invokevirtual 147, 3) := by decide +kernel
theorem dX7_stopAfter_107 : decode cX7_stopAfter 107 = .ok (.istore 4, 2) := by decide +kernel
theorem dX7_stopAfter_109 : decode cX7_stopAfter 109 = .ok (.iload 4, 2) := by decide +kernel
theorem dX7_stopAfter_111 : decode cX7_stopAfter 111 = .ok (.iload_n 3, 1) := by decide +kernel
theorem dX7_stopAfter_112 : decode cX7_stopAfter 112 = .ok (.if_icmp .ge 9, 3) := by decide +kernel
theorem dX7_stopAfter_115 : decode cX7_stopAfter 115 = .ok (.sipush 1440, 3) := by decide +kernel
theorem dX7_stopAfter_118 : decode cX7_stopAfter 118 = .ok (.goto 11, 3) := by decide +kernel
theorem dX7_stopAfter_121 : decode cX7_stopAfter 121 = .ok (.aload_n 0, 1) := by decide +kernel
theorem dX7_stopAfter_122 : decode cX7_stopAfter 122 = .ok (.getfield 37, 3) := by decide +kernel
theorem dX7_stopAfter_125 : decode cX7_stopAfter 125 = .ok (.iload_n 3, 1) := by decide +kernel
theorem dX7_stopAfter_126 : decode cX7_stopAfter 126 = .ok (.iconst 1, 1) := by decide +kernel
theorem dX7_stopAfter_127 : decode cX7_stopAfter 127 = .ok (.isub, 1) := by decide +kernel
theorem dX7_stopAfter_128 : decode cX7_stopAfter 128 = .ok (.iaload, 1) := by decide +kernel
theorem dX7_stopAfter_129 : decode cX7_stopAfter 129 = .ok (.istore 5, 2) := by decide +kernel
theorem dX7_stopAfter_131 : decode cX7_stopAfter 131 = .ok (.aload_n 0, 1) := by decide +kernel
theorem dX7_stopAfter_132 : decode cX7_stopAfter 132 = .ok (.iload 6, 2) := by decide +kernel
theorem dX7_stopAfter_134 : decode cX7_stopAfter 134 = .ok (.iload 7, 2) := by decide +kernel
theorem dX7_stopAfter_136 : decode cX7_stopAfter 136 = .ok (.iconst 1, 1) := by decide +kernel
theorem dX7_stopAfter_137 : decode cX7_stopAfter 137 = .ok (.iadd, 1) := by decide +kernel
theorem dX7_stopAfter_138 : decode cX7_stopAfter 138 = .ok (.iload 5, 2) := by decide +kernel
theorem dX7_stopAfter_140 : decode cX7_stopAfter 140 = .ok (.invokevirtual 143, 3) := by decide +kernel
theorem dX7_stopAfter_143 : decode cX7_stopAfter 143 = .ok (.istore 7, 2) := by decide +kernel
theorem dX7_stopAfter_145 : decode cX7_stopAfter 145 = .ok (.iinc 8 1, 3) := by decide +kernel
theorem dX7_stopAfter_148 : decode cX7_stopAfter 148 = .ok (.goto (-72), 3) := by decide +kernel
theorem dX7_stopAfter_151 : decode cX7_stopAfter 151 = .ok (.iinc 6 1, 3) := by decide +kernel
theorem dX7_stopAfter_154 : decode cX7_stopAfter 154 = .ok (.goto (-129), 3) := by decide +kernel
theorem dX7_stopAfter_157 : decode cX7_stopAfter 157 = .ok (.iload 4, 2) := by decide +kernel
theorem dX7_stopAfter_159 : decode cX7_stopAfter 159 = .ok (.iload_n 3, 1) := by decide +kernel
theorem dX7_stopAfter_160 : decode cX7_stopAfter 160 = .ok (.if_icmp .ge 8, 3) := by decide +kernel
theorem dX7_stopAfter_163 : decode cX7_stopAfter 163 = .ok (.ldc 136, 2) := by decide +kernel
theorem dX7_stopAfter_165 : decode cX7_stopAfter 165 = .ok (.goto 11, 3) := by decide +kernel
theorem dX7_stopAfter_168 : decode cX7_stopAfter 168 = .ok (.aload_n 0, 1) := by decide +kernel
theorem dX7_stopAfter_169 : decode cX7_stopAfter 169 = .ok (.getfield 37, 3) := by decide +kernel
theorem dX7_stopAfter_172 : decode cX7_stopAfter 172 = .ok (.iload_n 3, 1) := by decide +kernel
theorem dX7_stopAfter_173 : decode cX7_stopAfter 173 = .ok (.iconst 1, 1) := by decide +kernel
theorem dX7_stopAfter_174 : decode cX7_stopAfter 174 = .ok (.isub, 1) := by decide +kernel
theorem dX7_stopAfter_175 : decode cX7_stopAfter 175 = .ok (.iaload, 1) := by decide +kernel
theorem dX7_stopAfter_176 : decode cX7_stopAfter 176 = .ok (.ireturn, 1) := by decide +kernel
theorem dX7_insertStop_0 : decode cX7_insertStop 0 = .ok (.iload_n 2, 1) := by decide +kernel
theorem dX7_insertStop_1 : decode cX7_insertStop 1 = .ok (.iload_n 3, 1) := by decide +kernel
theorem dX7_insertStop_2 : decode cX7_insertStop 2 = .ok (.if_icmp .ge 7, 3) := by decide +kernel
theorem dX7_insertStop_5 : decode cX7_insertStop 5 = .ok (.iload_n 2, 1) := by decide +kernel
theorem dX7_insertStop_6 : decode cX7_insertStop 6 = .ok (.goto 6, 3) := by decide +kernel
theorem dX7_insertStop_9 : decode cX7_insertStop 9 = .ok (.iload_n 3, 1) := by decide +kernel
theorem dX7_insertStop_10 : decode cX7_insertStop 10 = .ok (.iconst 1, 1) := by decide +kernel
theorem dX7_insertStop_11 : decode cX7_insertStop 11 = .ok (.isub, 1) := by decide +kernel
theorem dX7_insertStop_12 : decode cX7_insertStop 12 = .ok (.istore 4, 2) := by decide +kernel
theorem dX7_insertStop_14 : decode cX7_insertStop 14 = .ok (.iload 4, 2) := by decide +kernel
theorem dX7_insertStop_16 : decode cX7_insertStop 16 = .ok (.istore 5, 2) := by decide +kernel
theorem dX7_insertStop_18 : decode cX7_insertStop 18 = .ok (.iload 5, 2) := by decide +kernel
theorem dX7_insertStop_20 : decode cX7_insertStop 20 = .ok (.ifCond .le 51, 3) := by decide +kernel
theorem dX7_insertStop_23 : decode cX7_insertStop 23 = .ok (.iload 5, 2) := by decide +kernel
theorem dX7_insertStop_25 : decode cX7_insertStop 25 = .ok (.bipush 9, 2) := by decide +kernel
theorem dX7_insertStop_27 : decode cX7_insertStop 27 = .ok (.if_icmp .ge 44, 3) := by decide +kernel
theorem dX7_insertStop_30 : decode cX7_insertStop 30 = .ok (.aload_n 0, 1) := by decide +kernel
theorem dX7_insertStop_31 : decode cX7_insertStop 31 = .ok (.getfield 37, 3) := by decide +kernel
theorem dX7_insertStop_34 : decode cX7_insertStop 34 = .ok (.iload 5, 2) := by decide +kernel
theorem dX7_insertStop_36 : decode cX7_insertStop 36 = .ok (.iconst 1, 1) := by decide +kernel
theorem dX7_insertStop_37 : decode cX7_insertStop 37 = .ok (.isub, 1) := by decide +kernel
theorem dX7_insertStop_38 : decode cX7_insertStop 38 = .ok (.iaload, 1) := by decide +kernel
theorem dX7_insertStop_39 : decode cX7_insertStop 39 = .ok (.iload_n 1, 1) := by decide +kernel
theorem dX7_insertStop_40 : decode cX7_insertStop 40 = .ok (.if_icmp .le 31, 3) := by decide +kernel
theorem dX7_insertStop_43 : decode cX7_insertStop 43 = .ok (.aload_n 0, 1) := by decide +kernel
theorem dX7_insertStop_44 : decode cX7_insertStop 44 = .ok (.getfield 37, 3) := by decide +kernel
theorem dX7_insertStop_47 : decode cX7_insertStop 47 = .ok (.iload 5, 2) := by decide +kernel
theorem dX7_insertStop_49 : decode cX7_insertStop 49 = .ok (.aload_n 0, 1) := by decide +kernel
theorem dX7_insertStop_50 : decode cX7_insertStop 50 = .ok (.getfield 37, 3) := by decide +kernel
theorem dX7_insertStop_53 : decode cX7_insertStop 53 = .ok (.iload 5, 2) := by decide +kernel
theorem dX7_insertStop_55 : decode cX7_insertStop 55 = .ok (.iconst 1, 1) := by decide +kernel
theorem dX7_insertStop_56 : decode cX7_insertStop 56 = .ok (.isub, 1) := by decide +kernel
theorem dX7_insertStop_57 : decode cX7_insertStop 57 = .ok (.iaload, 1) := by decide +kernel
theorem dX7_insertStop_58 : decode cX7_insertStop 58 = .ok (.iastore, 1) := by decide +kernel
theorem dX7_insertStop_59 : decode cX7_insertStop 59 = .ok (.iload 5, 2) := by decide +kernel
theorem dX7_insertStop_61 : decode cX7_insertStop 61 = .ok (.iconst 1, 1) := by decide +kernel
theorem dX7_insertStop_62 : decode cX7_insertStop 62 = .ok (.isub, 1) := by decide +kernel
theorem dX7_insertStop_63 : decode cX7_insertStop 63 = .ok (.istore 4, 2) := by decide +kernel
theorem dX7_insertStop_65 : decode cX7_insertStop 65 = .ok (.iinc 5 (-1), 3) := by decide +kernel
theorem dX7_insertStop_68 : decode cX7_insertStop 68 = .ok (.goto (-50), 3) := by decide +kernel
theorem dX7_insertStop_71 : decode cX7_insertStop 71 = .ok (.iload 4, 2) := by decide +kernel
theorem dX7_insertStop_73 : decode cX7_insertStop 73 = .ok (.ifCond .lt 18, 3) := by decide +kernel
theorem dX7_insertStop_76 : decode cX7_insertStop 76 = .ok (.iload 4, 2) := by decide +kernel
theorem dX7_insertStop_78 : decode cX7_insertStop 78 = .ok (.bipush 9, 2) := by decide +kernel
theorem dX7_insertStop_80 : decode cX7_insertStop 80 = .ok (.if_icmp .ge 11, 3) := by decide +kernel
theorem dX7_insertStop_83 : decode cX7_insertStop 83 = .ok (.aload_n 0, 1) := by decide +kernel
theorem dX7_insertStop_84 : decode cX7_insertStop 84 = .ok (.getfield 37, 3) := by decide +kernel
theorem dX7_insertStop_87 : decode cX7_insertStop 87 = .ok (.iload 4, 2) := by decide +kernel
theorem dX7_insertStop_89 : decode cX7_insertStop 89 = .ok (.iload_n 1, 1) := by decide +kernel
theorem dX7_insertStop_90 : decode cX7_insertStop 90 = .ok (.iastore, 1) := by decide +kernel
theorem dX7_insertStop_91 : decode cX7_insertStop 91 = .ok (.iload_n 2, 1) := by decide +kernel
theorem dX7_insertStop_92 : decode cX7_insertStop 92 = .ok (.iload_n 3, 1) := by decide +kernel
theorem dX7_insertStop_93 : decode cX7_insertStop 93 = .ok (.if_icmp .ge 9, 3) := by decide +kernel
theorem dX7_insertStop_96 : decode cX7_insertStop 96 = .ok (.iload_n 2, 1) := by decide +kernel
theorem dX7_insertStop_97 : decode cX7_insertStop 97 = .ok (.iconst 1, 1) := by decide +kernel
theorem dX7_insertStop_98 : decode cX7_insertStop 98 = .ok (.iadd, 1) := by decide +kernel
theorem dX7_insertStop_99 : decode cX7_insertStop 99 = .ok (.goto 4, 3) := by decide +kernel
theorem dX7_insertStop_102 : decode cX7_insertStop 102 = .ok (.iload_n 3, 1) := by decide +kernel
theorem dX7_insertStop_103 : decode cX7_insertStop 103 = .ok (.ireturn, 1) := by decide +kernel
set_option maxRecDepth 20000 in
theorem ggX7_board_X7_mayTake : GoodIn wsX7_board wsX7_mayTake := goodIn_r _ [8, 1, 9, 10, 11, 12, 13, 14, 15, 16, 17, 18, 19, 20, 21, 22, 23, 24, 7, 25, 26, 27, 28, 29, 30, 31, 32, 33, 34, 35, 131, 132, 133, 134, 135, 136, 137, 138, 139, 140, 141, 142, 143, 144, 145, 146, 147, 148, 149, 150, 151, 152, 153, 154, 155, 156, 157] rfl (by decide +kernel)
set_option maxRecDepth 20000 in
theorem gX7_board_X7_mayTake : GoodIn wsX7_board (wsV RX7 150 RX7 yX7_mayTake wsX7_mayTake) := goodIn_app (goodIn_of _ (by decide +kernel)) ggX7_board_X7_mayTake
set_option maxRecDepth 20000 in
theorem ggX7_board_X3_firstCarSince : GoodIn wsX7_board wsX3_firstCarSince := goodIn_r _ [39, 40, 41, 42, 14, 43, 44, 148, 149, 150, 151, 152, 153, 154, 155, 156, 157] rfl (by decide +kernel)
set_option maxRecDepth 20000 in
theorem gX7_board_X3_firstCarSince : GoodIn wsX7_board (wsV RX7 140 RX3 yX3_firstCarSince wsX3_firstCarSince) := goodIn_app (goodIn_of _ (by decide +kernel)) ggX7_board_X3_firstCarSince
set_option maxRecDepth 20000 in
theorem ggX7_board_X7_nextStop : GoodIn wsX7_board wsX7_nextStop := goodIn_r _ [48, 1, 49, 50, 51, 14, 52, 40, 41, 42, 43, 44, 53, 54, 55, 56, 57, 58, 59, 7, 60, 61, 62, 63, 64, 65, 66, 67, 68, 69, 70, 71, 72, 73, 74, 75, 76, 77, 78, 79, 80, 11, 12, 13, 15, 16, 81, 82, 83, 84, 85, 26, 27, 28, 29, 30, 86, 87, 88, 89, 90, 91, 92, 93, 94, 17, 18, 19, 20, 21, 95, 96, 97, 98, 99, 100, 101, 102, 103, 104, 105, 106, 107, 108, 109, 110, 111, 112, 113, 114, 115, 116, 117, 118, 119, 120, 121, 122, 123, 124, 131, 132, 133, 134, 135, 136, 137, 138, 139, 140, 141, 142, 143, 144, 145, 146, 147, 148, 149, 150, 151, 152, 153, 154, 155, 156, 157, 158, 159, 160, 161, 162, 163, 164] rfl (by decide +kernel)
set_option maxRecDepth 20000 in
theorem gX7_board_X7_nextStop : GoodIn wsX7_board (wsV RX7 143 RX7 yX7_nextStop wsX7_nextStop) := goodIn_app (goodIn_of _ (by decide +kernel)) ggX7_board_X7_nextStop
set_option maxRecDepth 20000 in
theorem ggX7_board_X3_passes : GoodIn wsX7_board wsX3_passes := goodIn_r _ [56, 40, 41, 42, 14, 43, 44, 148, 149, 150, 151, 152, 153, 154, 155, 156, 157] rfl (by decide +kernel)
set_option maxRecDepth 20000 in
theorem gX7_board_X3_passes : GoodIn wsX7_board (wsV RX7 78 RX3 yX3_passes wsX3_passes) := goodIn_app (goodIn_of _ (by decide +kernel)) ggX7_board_X3_passes
set_option maxRecDepth 20000 in
theorem ggX7_board_X7_getsIn : GoodIn wsX7_board wsX7_getsIn := goodIn_r _ [128, 10, 129, 130, 63, 1, 22, 23, 24, 7, 25, 26, 27, 28, 14, 29, 30, 31, 32, 33, 34, 35, 11, 12, 13, 15, 16, 64, 65, 66, 67, 68, 69, 70, 71, 72, 73, 115, 116, 117, 118, 114, 86, 87, 88, 89, 78, 79, 80, 81, 82, 83, 84, 85, 90, 91, 92, 93, 94, 17, 18, 19, 20, 21, 95, 96, 97, 98, 99, 100, 101, 102, 103, 104, 105, 106, 107, 108, 109, 110, 111, 112, 113, 131, 132, 133, 134, 135, 136, 137, 138, 139, 140, 141, 142, 143, 144, 145, 146, 147, 161, 162, 163, 164, 148, 149, 150, 151, 152, 153, 154, 155, 156, 157, 158, 159, 160] rfl (by decide +kernel)
set_option maxRecDepth 20000 in
theorem gX7_board_X7_getsIn : GoodIn wsX7_board (wsV RX7 153 RX7 yX7_getsIn wsX7_getsIn) := goodIn_app (goodIn_of _ (by decide +kernel)) ggX7_board_X7_getsIn
theorem dX7_board_0 : decode cX7_board 0 = .ok (.sipush 1440, 3) := by decide +kernel
theorem dX7_board_3 : decode cX7_board 3 = .ok (.istore_n 3, 1) := by decide +kernel
theorem dX7_board_4 : decode cX7_board 4 = .ok (.iconst (-1), 1) := by decide +kernel
theorem dX7_board_5 : decode cX7_board 5 = .ok (.istore 4, 2) := by decide +kernel
theorem dX7_board_7 : decode cX7_board 7 = .ok (.iconst 0, 1) := by decide +kernel
theorem dX7_board_8 : decode cX7_board 8 = .ok (.istore 5, 2) := by decide +kernel
theorem dX7_board_10 : decode cX7_board 10 = .ok (.iload 5, 2) := by decide +kernel
theorem dX7_board_12 : decode cX7_board 12 = .ok (.aload_n 0, 1) := by decide +kernel
theorem dX7_board_13 : decode cX7_board 13 = .ok (.getfield 12, 3) := by decide +kernel
theorem dX7_board_16 : decode cX7_board 16 = .ok (.getfield 137, 3) := by decide +kernel
theorem dX7_board_19 : decode cX7_board 19 = .ok (.if_icmp .ge 114, 3) := by decide +kernel
theorem dX7_board_22 : decode cX7_board 22 = .ok (.aload_n 0, 1) := by decide +kernel
theorem dX7_board_23 : decode cX7_board 23 = .ok (.iload 5, 2) := by decide +kernel
theorem dX7_board_25 : decode cX7_board 25 = .ok (.iload_n 1, 1) := by decide +kernel
theorem dX7_board_26 : decode cX7_board 26 = .ok (.invokevirtual 150, 3) := by decide +kernel
theorem dX7_board_29 : decode cX7_board 29 = .ok (.ifCond .ne 6, 3) := by decide +kernel
theorem dX7_board_32 : decode cX7_board 32 = .ok (.goto 95, 3) := by decide +kernel
theorem dX7_board_35 : decode cX7_board 35 = .ok (.aload_n 0, 1) := by decide +kernel
theorem dX7_board_36 : decode cX7_board 36 = .ok (.iload 5, 2) := by decide +kernel
theorem dX7_board_38 : decode cX7_board 38 = .ok (.aload_n 0, 1) := by decide +kernel
theorem dX7_board_39 : decode cX7_board 39 = .ok (.getfield 12, 3) := by decide +kernel
theorem dX7_board_42 : decode cX7_board 42 = .ok (.iload 5, 2) := by decide +kernel
theorem dX7_board_44 : decode cX7_board 44 = .ok (.iload_n 2, 1) := by decide +kernel
theorem dX7_board_45 : decode cX7_board 45 = .ok (.invokevirtual 140, 3) := by decide +kernel
theorem dX7_board_48 : decode cX7_board 48 = .ok (.iload_n 3, 1) := by decide +kernel
theorem dX7_board_49 : decode cX7_board 49 = .ok (.invokevirtual 143, 3) := by decide +kernel
theorem dX7_board_52 : decode cX7_board 52 = .ok (.istore 6, 2) := by decide +kernel
theorem dX7_board_54 : decode cX7_board 54 = .ok (.iconst 0, 1) := by decide +kernel
theorem dX7_board_55 : decode cX7_board 55 = .ok (.istore 7, 2) := by decide +kernel
theorem dX7_board_57 : decode cX7_board 57 = .ok (.iload 7, 2) := by decide +kernel
theorem dX7_board_59 : decode cX7_board 59 = .ok (.sipush 1440, 3) := by decide +kernel
theorem dX7_board_62 : decode cX7_board 62 = .ok (.if_icmp .ge 65, 3) := by decide +kernel
theorem dX7_board_65 : decode cX7_board 65 = .ok (.iload 6, 2) := by decide +kernel
theorem dX7_board_67 : decode cX7_board 67 = .ok (.ifCond .lt 60, 3) := by decide +kernel
theorem dX7_board_70 : decode cX7_board 70 = .ok (.aload_n 0, 1) := by decide +kernel
theorem dX7_board_71 : decode cX7_board 71 = .ok (.getfield 12, 3) := by decide +kernel
theorem dX7_board_74 : decode cX7_board 74 = .ok (.iload 5, 2) := by decide +kernel
theorem dX7_board_76 : decode cX7_board 76 = .ok (.iload 6, 2) := by decide +kernel
theorem dX7_board_78 : decode cX7_board 78 = .ok (.invokevirtual 78, 3) := by decide +kernel
theorem dX7_board_81 : decode cX7_board 81 = .ok (.istore 8, 2) := by decide +kernel
theorem dX7_board_83 : decode cX7_board 83 = .ok (.aload_n 0, 1) := by decide +kernel
theorem dX7_board_84 : decode cX7_board 84 = .ok (.iload 5, 2) := by decide +kernel
theorem dX7_board_86 : decode cX7_board 86 = .ok (.iload 8, 2) := by decide +kernel
theorem dX7_board_88 : decode cX7_board 88 = .ok (.iload 8, 2) := by decide +kernel
theorem dX7_board_90 : decode cX7_board 90 = .ok (.iload_n 2, 1) := by decide +kernel
theorem dX7_board_91 : decode cX7_board 91 = .ok (.isub, 1) := by decide +kernel
theorem dX7_board_92 : decode cX7_board 92 = .ok (.invokevirtual 153, 3) := by decide +kernel
theorem dX7_board_95 : decode cX7_board 95 = .ok (.ifCond .eq 13, 3) := by decide +kernel
theorem dX7_board_98 : decode cX7_board 98 = .ok (.iload 8, 2) := by decide +kernel
theorem dX7_board_100 : decode cX7_board 100 = .ok (.istore_n 3, 1) := by decide +kernel
theorem dX7_board_101 : decode cX7_board 101 = .ok (.iload 5, 2) := by decide +kernel
theorem dX7_board_103 : decode cX7_board 103 = .ok (.istore 4, 2) := by decide +kernel
theorem dX7_board_105 : decode cX7_board 105 = .ok (.goto 22, 3) := by decide +kernel
theorem dX7_board_108 : decode cX7_board 108 = .ok (.aload_n 0, 1) := by decide +kernel
theorem dX7_board_109 : decode cX7_board 109 = .ok (.iload 5, 2) := by decide +kernel
theorem dX7_board_111 : decode cX7_board 111 = .ok (.iload 6, 2) := by decide +kernel
theorem dX7_board_113 : decode cX7_board 113 = .ok (.iconst 1, 1) := by decide +kernel
theorem dX7_board_114 : decode cX7_board 114 = .ok (.iadd, 1) := by decide +kernel
theorem dX7_board_115 : decode cX7_board 115 = .ok (.iload_n 3, 1) := by decide +kernel
theorem dX7_board_116 : decode cX7_board 116 = .ok (.invokevirtual 143, 3) := by decide +kernel
theorem dX7_board_119 : decode cX7_board 119 = .ok (.istore 6, 2) := by decide +kernel
theorem dX7_board_121 : decode cX7_board 121 = .ok (.iinc 7 1, 3) := by decide +kernel
theorem dX7_board_124 : decode cX7_board 124 = .ok (.goto (-67), 3) := by decide +kernel
theorem dX7_board_127 : decode cX7_board 127 = .ok (.iinc 5 1, 3) := by decide +kernel
theorem dX7_board_130 : decode cX7_board 130 = .ok (.goto (-120), 3) := by decide +kernel
theorem dX7_board_133 : decode cX7_board 133 = .ok (.aload_n 0, 1) := by decide +kernel
theorem dX7_board_134 : decode cX7_board 134 = .ok (.iload_n 3, 1) := by decide +kernel
theorem dX7_board_135 : decode cX7_board 135 = .ok (.putfield 157, 3) := by decide +kernel
theorem dX7_board_138 : decode cX7_board 138 = .ok (.iload 4, 2) := by decide +kernel
theorem dX7_board_140 : decode cX7_board 140 = .ok (.ireturn, 1) := by decide +kernel
set_option maxRecDepth 20000 in
theorem ggX7_arrival_X7_board : GoodIn wsX7_arrival wsX7_board := goodIn_r _ [11, 6, 12, 5, 13, 14, 15, 10, 16, 17, 18, 19, 20, 21, 22, 23, 24, 25, 26, 27, 28, 29, 30, 31, 32, 33, 34, 35, 36, 37, 38, 39, 40, 41, 42, 43, 44, 45, 46, 47, 48, 49, 50, 51, 52, 53, 54, 55, 56, 57, 58, 59, 60, 61, 62, 63, 64, 65, 66, 67, 68, 69, 70, 71, 72, 73, 74, 75, 76, 77, 78, 79, 80, 81, 82, 83, 84, 85, 86, 87, 88, 89, 90, 91, 92, 93, 94, 95, 96, 97, 98, 99, 100, 101, 102, 103, 104, 105, 106, 107, 108, 109, 110, 111, 112, 113, 114, 115, 116, 117, 118, 119, 120, 121, 122, 123, 124, 125, 126, 127, 128, 129, 130, 131, 132, 133, 134, 135, 136, 137, 138, 144, 145, 146, 147, 148, 149, 150, 151, 152, 153, 154, 155, 156, 157, 158, 159, 160, 161, 162, 163, 164, 165, 166, 167, 168, 169, 170, 171, 172, 173, 174, 175, 176, 177] rfl (by decide +kernel)
set_option maxRecDepth 20000 in
theorem gX7_arrival_X7_board : GoodIn wsX7_arrival (wsV RX7 163 RX7 yX7_board wsX7_board) := goodIn_app (goodIn_of _ (by decide +kernel)) ggX7_arrival_X7_board
set_option maxRecDepth 20000 in
theorem ggX7_arrival_X3_minutesOf : GoodIn wsX7_arrival wsX3_minutesOf := goodIn_r _ [142, 143, 161, 162, 163, 164, 165, 166, 167, 168, 169, 170] rfl (by decide +kernel)
set_option maxRecDepth 20000 in
theorem gX7_arrival_X3_minutesOf : GoodIn wsX7_arrival (wsV RX7 166 RX3 yX3_minutesOf wsX3_minutesOf) := goodIn_app (goodIn_of _ (by decide +kernel)) ggX7_arrival_X3_minutesOf
set_option maxRecDepth 20000 in
theorem ggX7_arrival_X3_endOf : GoodIn wsX7_arrival wsX3_endOf := goodIn_r _ [37, 38, 161, 162, 163, 164, 165, 166, 167, 168, 169, 170] rfl (by decide +kernel)
set_option maxRecDepth 20000 in
theorem gX7_arrival_X3_endOf : GoodIn wsX7_arrival (wsV RX7 113 RX3 yX3_endOf wsX3_endOf) := goodIn_app (goodIn_of _ (by decide +kernel)) ggX7_arrival_X3_endOf
theorem dX7_arrival_0 : decode cX7_arrival 0 = .ok (.iload_n 1, 1) := by decide +kernel
theorem dX7_arrival_1 : decode cX7_arrival 1 = .ok (.istore_n 3, 1) := by decide +kernel
theorem dX7_arrival_2 : decode cX7_arrival 2 = .ok (.iload_n 2, 1) := by decide +kernel
theorem dX7_arrival_3 : decode cX7_arrival 3 = .ok (.istore 4, 2) := by decide +kernel
theorem dX7_arrival_5 : decode cX7_arrival 5 = .ok (.aload_n 0, 1) := by decide +kernel
theorem dX7_arrival_6 : decode cX7_arrival 6 = .ok (.iconst 0, 1) := by decide +kernel
theorem dX7_arrival_7 : decode cX7_arrival 7 = .ok (.putfield 160, 3) := by decide +kernel
theorem dX7_arrival_10 : decode cX7_arrival 10 = .ok (.iconst 0, 1) := by decide +kernel
theorem dX7_arrival_11 : decode cX7_arrival 11 = .ok (.istore 5, 2) := by decide +kernel
theorem dX7_arrival_13 : decode cX7_arrival 13 = .ok (.iload 5, 2) := by decide +kernel
theorem dX7_arrival_15 : decode cX7_arrival 15 = .ok (.bipush 20, 2) := by decide +kernel
theorem dX7_arrival_17 : decode cX7_arrival 17 = .ok (.if_icmp .ge 77, 3) := by decide +kernel
theorem dX7_arrival_20 : decode cX7_arrival 20 = .ok (.iload_n 3, 1) := by decide +kernel
theorem dX7_arrival_21 : decode cX7_arrival 21 = .ok (.aload_n 0, 1) := by decide +kernel
theorem dX7_arrival_22 : decode cX7_arrival 22 = .ok (.getfield 50, 3) := by decide +kernel
theorem dX7_arrival_25 : decode cX7_arrival 25 = .ok (.if_icmp .eq 69, 3) := by decide +kernel
theorem dX7_arrival_28 : decode cX7_arrival 28 = .ok (.aload_n 0, 1) := by decide +kernel
theorem dX7_arrival_29 : decode cX7_arrival 29 = .ok (.iload_n 3, 1) := by decide +kernel
theorem dX7_arrival_30 : decode cX7_arrival 30 = .ok (.iload 4, 2) := by decide +kernel
theorem dX7_arrival_32 : decode cX7_arrival 32 = .ok (.invokevirtual 163, 3) := by decide +kernel
theorem dX7_arrival_35 : decode cX7_arrival 35 = .ok (.istore 6, 2) := by decide +kernel
theorem dX7_arrival_37 : decode cX7_arrival 37 = .ok (.iload 6, 2) := by decide +kernel
theorem dX7_arrival_39 : decode cX7_arrival 39 = .ok (.ifCond .ge 6, 3) := by decide +kernel
theorem dX7_arrival_42 : decode cX7_arrival 42 = .ok (.ldc 136, 2) := by decide +kernel
theorem dX7_arrival_44 : decode cX7_arrival 44 = .ok (.ireturn, 1) := by decide +kernel
theorem dX7_arrival_45 : decode cX7_arrival 45 = .ok (.aload_n 0, 1) := by decide +kernel
theorem dX7_arrival_46 : decode cX7_arrival 46 = .ok (.getfield 40, 3) := by decide +kernel
theorem dX7_arrival_49 : decode cX7_arrival 49 = .ok (.iload 5, 2) := by decide +kernel
theorem dX7_arrival_51 : decode cX7_arrival 51 = .ok (.iload 6, 2) := by decide +kernel
theorem dX7_arrival_53 : decode cX7_arrival 53 = .ok (.iastore, 1) := by decide +kernel
theorem dX7_arrival_54 : decode cX7_arrival 54 = .ok (.aload_n 0, 1) := by decide +kernel
theorem dX7_arrival_55 : decode cX7_arrival 55 = .ok (.iload 5, 2) := by decide +kernel
theorem dX7_arrival_57 : decode cX7_arrival 57 = .ok (.iconst 1, 1) := by decide +kernel
theorem dX7_arrival_58 : decode cX7_arrival 58 = .ok (.iadd, 1) := by decide +kernel
theorem dX7_arrival_59 : decode cX7_arrival 59 = .ok (.putfield 160, 3) := by decide +kernel
theorem dX7_arrival_62 : decode cX7_arrival 62 = .ok (.aload_n 0, 1) := by decide +kernel
theorem dX7_arrival_63 : decode cX7_arrival 63 = .ok (.getfield 157, 3) := by decide +kernel
theorem dX7_arrival_66 : decode cX7_arrival 66 = .ok (.aload_n 0, 1) := by decide +kernel
theorem dX7_arrival_67 : decode cX7_arrival 67 = .ok (.getfield 12, 3) := by decide +kernel
theorem dX7_arrival_70 : decode cX7_arrival 70 = .ok (.iload 6, 2) := by decide +kernel
theorem dX7_arrival_72 : decode cX7_arrival 72 = .ok (.invokevirtual 166, 3) := by decide +kernel
theorem dX7_arrival_75 : decode cX7_arrival 75 = .ok (.iadd, 1) := by decide +kernel
theorem dX7_arrival_76 : decode cX7_arrival 76 = .ok (.istore 4, 2) := by decide +kernel
theorem dX7_arrival_78 : decode cX7_arrival 78 = .ok (.aload_n 0, 1) := by decide +kernel
theorem dX7_arrival_79 : decode cX7_arrival 79 = .ok (.getfield 12, 3) := by decide +kernel
theorem dX7_arrival_82 : decode cX7_arrival 82 = .ok (.iload 6, 2) := by decide +kernel
theorem dX7_arrival_84 : decode cX7_arrival 84 = .ok (.invokevirtual 113, 3) := by decide +kernel
theorem dX7_arrival_87 : decode cX7_arrival 87 = .ok (.istore_n 3, 1) := by decide +kernel
theorem dX7_arrival_88 : decode cX7_arrival 88 = .ok (.iinc 5 1, 3) := by decide +kernel
theorem dX7_arrival_91 : decode cX7_arrival 91 = .ok (.goto (-78), 3) := by decide +kernel
theorem dX7_arrival_94 : decode cX7_arrival 94 = .ok (.iload_n 3, 1) := by decide +kernel
theorem dX7_arrival_95 : decode cX7_arrival 95 = .ok (.aload_n 0, 1) := by decide +kernel
theorem dX7_arrival_96 : decode cX7_arrival 96 = .ok (.getfield 50, 3) := by decide +kernel
theorem dX7_arrival_99 : decode cX7_arrival 99 = .ok (.if_icmp .ne 8, 3) := by decide +kernel
theorem dX7_arrival_102 : decode cX7_arrival 102 = .ok (.iload 4, 2) := by decide +kernel
theorem dX7_arrival_104 : decode cX7_arrival 104 = .ok (.goto 5, 3) := by decide +kernel
theorem dX7_arrival_107 : decode cX7_arrival 107 = .ok (.ldc 136, 2) := by decide +kernel
theorem dX7_arrival_109 : decode cX7_arrival 109 = .ok (.ireturn, 1) := by decide +kernel
set_option maxRecDepth 20000 in
theorem ggX7_offFrom_X7_stopAfter : GoodIn wsX7_offFrom wsX7_stopAfter := goodIn_r _ [19, 3, 1, 20, 21, 22, 23, 24, 25, 26, 27, 28, 29, 30, 31, 32, 33, 34, 35, 36, 37, 38, 39, 18, 40, 41, 42, 43, 44, 45, 46, 47, 48, 49, 50, 51, 52, 53, 54, 55, 56, 57, 58, 59, 60, 61, 62, 63, 64, 65, 66, 67, 68, 69, 70, 71, 72, 73, 74, 75, 76, 77, 78, 79, 80, 81, 82, 83, 84, 85, 86, 87, 88, 89, 90, 91, 92, 93, 94, 95, 96, 97, 98, 99, 100, 101, 102, 103, 104, 105, 106, 7, 107, 108, 109, 110, 111, 112, 113, 114, 115, 116, 117, 118, 119, 120, 121, 122, 123, 124, 125, 126, 127, 128, 129, 146, 147, 148, 149, 150, 151, 152, 153, 154, 155, 156, 157, 158, 159, 160, 161, 162, 163, 164, 165, 166, 167, 168, 169, 170, 171, 172, 173, 174, 175, 176, 177, 178, 179] rfl (by decide +kernel)
set_option maxRecDepth 20000 in
theorem gX7_offFrom_X7_stopAfter : GoodIn wsX7_offFrom (wsV RX7 172 RX7 yX7_stopAfter wsX7_stopAfter) := goodIn_app (goodIn_of _ (by decide +kernel)) ggX7_offFrom_X7_stopAfter
set_option maxRecDepth 20000 in
theorem ggX7_offFrom_X5_cell : GoodIn wsX7_offFrom wsX5_cell := goodIn_r _ [134, 135, 136, 137, 138, 133, 139, 140, 141, 142, 143, 144, 145, 180, 181, 182, 183] rfl (by decide +kernel)
set_option maxRecDepth 20000 in
theorem gX7_offFrom_X5_cell : GoodIn wsX7_offFrom (wsV RX7 177 RX5 yX5_cell wsX5_cell) := goodIn_app (goodIn_of _ (by decide +kernel)) ggX7_offFrom_X5_cell
theorem dX7_offFrom_0 : decode cX7_offFrom 0 = .ok (.iconst 0, 1) := by decide +kernel
theorem dX7_offFrom_1 : decode cX7_offFrom 1 = .ok (.istore_n 3, 1) := by decide +kernel
theorem dX7_offFrom_2 : decode cX7_offFrom 2 = .ok (.iconst 0, 1) := by decide +kernel
theorem dX7_offFrom_3 : decode cX7_offFrom 3 = .ok (.istore 4, 2) := by decide +kernel
theorem dX7_offFrom_5 : decode cX7_offFrom 5 = .ok (.iload 4, 2) := by decide +kernel
theorem dX7_offFrom_7 : decode cX7_offFrom 7 = .ok (.aload_n 0, 1) := by decide +kernel
theorem dX7_offFrom_8 : decode cX7_offFrom 8 = .ok (.getfield 12, 3) := by decide +kernel
theorem dX7_offFrom_11 : decode cX7_offFrom 11 = .ok (.getfield 169, 3) := by decide +kernel
theorem dX7_offFrom_14 : decode cX7_offFrom 14 = .ok (.if_icmp .ge 68, 3) := by decide +kernel
theorem dX7_offFrom_17 : decode cX7_offFrom 17 = .ok (.aload_n 0, 1) := by decide +kernel
theorem dX7_offFrom_18 : decode cX7_offFrom 18 = .ok (.iload 4, 2) := by decide +kernel
theorem dX7_offFrom_20 : decode cX7_offFrom 20 = .ok (.iload_n 2, 1) := by decide +kernel
theorem dX7_offFrom_21 : decode cX7_offFrom 21 = .ok (.iconst 1, 1) := by decide +kernel
theorem dX7_offFrom_22 : decode cX7_offFrom 22 = .ok (.invokevirtual 172, 3) := by decide +kernel
theorem dX7_offFrom_25 : decode cX7_offFrom 25 = .ok (.istore 5, 2) := by decide +kernel
theorem dX7_offFrom_27 : decode cX7_offFrom 27 = .ok (.iload 5, 2) := by decide +kernel
theorem dX7_offFrom_29 : decode cX7_offFrom 29 = .ok (.ldc 136, 2) := by decide +kernel
theorem dX7_offFrom_31 : decode cX7_offFrom 31 = .ok (.if_icmp .ne 9, 3) := by decide +kernel
theorem dX7_offFrom_34 : decode cX7_offFrom 34 = .ok (.sipush 1440, 3) := by decide +kernel
theorem dX7_offFrom_37 : decode cX7_offFrom 37 = .ok (.goto 7, 3) := by decide +kernel
theorem dX7_offFrom_40 : decode cX7_offFrom 40 = .ok (.iload 5, 2) := by decide +kernel
theorem dX7_offFrom_42 : decode cX7_offFrom 42 = .ok (.iload_n 2, 1) := by decide +kernel
theorem dX7_offFrom_43 : decode cX7_offFrom 43 = .ok (.isub, 1) := by decide +kernel
theorem dX7_offFrom_44 : decode cX7_offFrom 44 = .ok (.istore 6, 2) := by decide +kernel
theorem dX7_offFrom_46 : decode cX7_offFrom 46 = .ok (.lconst 0, 1) := by decide +kernel
theorem dX7_offFrom_47 : decode cX7_offFrom 47 = .ok (.ldc2_w 175, 3) := by decide +kernel
theorem dX7_offFrom_50 : decode cX7_offFrom 50 = .ok (.aload_n 1, 1) := by decide +kernel
theorem dX7_offFrom_51 : decode cX7_offFrom 51 = .ok (.iload 4, 2) := by decide +kernel
theorem dX7_offFrom_53 : decode cX7_offFrom 53 = .ok (.invokevirtual 177, 3) := by decide +kernel
theorem dX7_offFrom_56 : decode cX7_offFrom 56 = .ok (.invokestatic 183, 3) := by decide +kernel
theorem dX7_offFrom_59 : decode cX7_offFrom 59 = .ok (.invokestatic 189, 3) := by decide +kernel
theorem dX7_offFrom_62 : decode cX7_offFrom 62 = .ok (.lstore 7, 2) := by decide +kernel
theorem dX7_offFrom_64 : decode cX7_offFrom 64 = .ok (.iload_n 3, 1) := by decide +kernel
theorem dX7_offFrom_65 : decode cX7_offFrom 65 = .ok (.lload 7, 2) := by decide +kernel
theorem dX7_offFrom_67 : decode cX7_offFrom 67 = .ok (.l2i, 1) := by decide +kernel
theorem dX7_offFrom_68 : decode cX7_offFrom 68 = .ok (.iload 6, 2) := by decide +kernel
theorem dX7_offFrom_70 : decode cX7_offFrom 70 = .ok (.isub, 1) := by decide +kernel
theorem dX7_offFrom_71 : decode cX7_offFrom 71 = .ok (.invokestatic 192, 3) := by decide +kernel
theorem dX7_offFrom_74 : decode cX7_offFrom 74 = .ok (.iadd, 1) := by decide +kernel
theorem dX7_offFrom_75 : decode cX7_offFrom 75 = .ok (.istore_n 3, 1) := by decide +kernel
theorem dX7_offFrom_76 : decode cX7_offFrom 76 = .ok (.iinc 4 1, 3) := by decide +kernel
theorem dX7_offFrom_79 : decode cX7_offFrom 79 = .ok (.goto (-74), 3) := by decide +kernel
theorem dX7_offFrom_82 : decode cX7_offFrom 82 = .ok (.iload_n 3, 1) := by decide +kernel
theorem dX7_offFrom_83 : decode cX7_offFrom 83 = .ok (.ireturn, 1) := by decide +kernel
