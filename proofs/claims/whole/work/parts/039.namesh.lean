set_option maxRecDepth 20000 in
theorem ggX9_trace_X9_within : GoodIn wsX9_trace wsX9_within := goodIn_r _ [7] rfl (by decide +kernel)
set_option maxRecDepth 20000 in
theorem gX9_trace_X9_within : GoodIn wsX9_trace (wsV RX9 209 RX9 yX9_within wsX9_within) := goodIn_app (goodIn_of _ (by decide +kernel)) ggX9_trace_X9_within
theorem dX9_trace_0 : decode cX9_trace 0 = .ok (.aload_n 0, 1) := by decide +kernel
theorem dX9_trace_1 : decode cX9_trace 1 = .ok (.iload_n 1, 1) := by decide +kernel
theorem dX9_trace_2 : decode cX9_trace 2 = .ok (.iconst 0, 1) := by decide +kernel
theorem dX9_trace_3 : decode cX9_trace 3 = .ok (.bipush 23, 2) := by decide +kernel
theorem dX9_trace_5 : decode cX9_trace 5 = .ok (.invokevirtual 209, 3) := by decide +kernel
theorem dX9_trace_8 : decode cX9_trace 8 = .ok (.ifCond .eq 20, 3) := by decide +kernel
theorem dX9_trace_11 : decode cX9_trace 11 = .ok (.iload_n 1, 1) := by decide +kernel
theorem dX9_trace_12 : decode cX9_trace 12 = .ok (.aload_n 0, 1) := by decide +kernel
theorem dX9_trace_13 : decode cX9_trace 13 = .ok (.getfield 187, 3) := by decide +kernel
theorem dX9_trace_16 : decode cX9_trace 16 = .ok (.if_icmp .ge 12, 3) := by decide +kernel
theorem dX9_trace_19 : decode cX9_trace 19 = .ok (.aload_n 0, 1) := by decide +kernel
theorem dX9_trace_20 : decode cX9_trace 20 = .ok (.getfield 193, 3) := by decide +kernel
theorem dX9_trace_23 : decode cX9_trace 23 = .ok (.iload_n 1, 1) := by decide +kernel
theorem dX9_trace_24 : decode cX9_trace 24 = .ok (.iaload, 1) := by decide +kernel
theorem dX9_trace_25 : decode cX9_trace 25 = .ok (.goto 4, 3) := by decide +kernel
theorem dX9_trace_28 : decode cX9_trace 28 = .ok (.iconst (-1), 1) := by decide +kernel
theorem dX9_trace_29 : decode cX9_trace 29 = .ok (.ireturn, 1) := by decide +kernel
set_option maxRecDepth 20000 in
theorem ggX9_isShelf_X9_within : GoodIn wsX9_isShelf wsX9_within := goodIn_r _ [5] rfl (by decide +kernel)
set_option maxRecDepth 20000 in
theorem gX9_isShelf_X9_within : GoodIn wsX9_isShelf (wsV RX9 209 RX9 yX9_within wsX9_within) := goodIn_app (goodIn_of _ (by decide +kernel)) ggX9_isShelf_X9_within
theorem dX9_isShelf_0 : decode cX9_isShelf 0 = .ok (.aload_n 0, 1) := by decide +kernel
theorem dX9_isShelf_1 : decode cX9_isShelf 1 = .ok (.iload_n 1, 1) := by decide +kernel
theorem dX9_isShelf_2 : decode cX9_isShelf 2 = .ok (.iconst 0, 1) := by decide +kernel
theorem dX9_isShelf_3 : decode cX9_isShelf 3 = .ok (.iconst 5, 1) := by decide +kernel
theorem dX9_isShelf_4 : decode cX9_isShelf 4 = .ok (.invokevirtual 209, 3) := by decide +kernel
theorem dX9_isShelf_7 : decode cX9_isShelf 7 = .ok (.ireturn, 1) := by decide +kernel
theorem dX9_isRow_0 : decode cX9_isRow 0 = .ok (.aload_n 0, 1) := by decide +kernel
theorem dX9_isRow_1 : decode cX9_isRow 1 = .ok (.getfield 196, 3) := by decide +kernel
theorem dX9_isRow_4 : decode cX9_isRow 4 = .ok (.iload_n 1, 1) := by decide +kernel
theorem dX9_isRow_5 : decode cX9_isRow 5 = .ok (.iaload, 1) := by decide +kernel
theorem dX9_isRow_6 : decode cX9_isRow 6 = .ok (.iconst (-1), 1) := by decide +kernel
theorem dX9_isRow_7 : decode cX9_isRow 7 = .ok (.if_icmp .ge 7, 3) := by decide +kernel
theorem dX9_isRow_10 : decode cX9_isRow 10 = .ok (.iconst 1, 1) := by decide +kernel
theorem dX9_isRow_11 : decode cX9_isRow 11 = .ok (.goto 4, 3) := by decide +kernel
theorem dX9_isRow_14 : decode cX9_isRow 14 = .ok (.iconst 0, 1) := by decide +kernel
theorem dX9_isRow_15 : decode cX9_isRow 15 = .ok (.ireturn, 1) := by decide +kernel
theorem dX9_sortOf_0 : decode cX9_sortOf 0 = .ok (.bipush (-2), 2) := by decide +kernel
theorem dX9_sortOf_2 : decode cX9_sortOf 2 = .ok (.aload_n 0, 1) := by decide +kernel
theorem dX9_sortOf_3 : decode cX9_sortOf 3 = .ok (.getfield 196, 3) := by decide +kernel
theorem dX9_sortOf_6 : decode cX9_sortOf 6 = .ok (.iload_n 1, 1) := by decide +kernel
theorem dX9_sortOf_7 : decode cX9_sortOf 7 = .ok (.iaload, 1) := by decide +kernel
theorem dX9_sortOf_8 : decode cX9_sortOf 8 = .ok (.isub, 1) := by decide +kernel
theorem dX9_sortOf_9 : decode cX9_sortOf 9 = .ok (.ireturn, 1) := by decide +kernel
set_option maxRecDepth 20000 in
theorem ggX9_keep_X9_isShelf : GoodIn wsX9_keep wsX9_isShelf := goodIn_r _ [7, 8, 9, 10, 6, 11] rfl (by decide +kernel)
set_option maxRecDepth 20000 in
theorem gX9_keep_X9_isShelf : GoodIn wsX9_keep (wsV RX9 362 RX9 yX9_isShelf wsX9_isShelf) := goodIn_app (goodIn_of _ (by decide +kernel)) ggX9_keep_X9_isShelf
set_option maxRecDepth 20000 in
theorem ggX9_keep_X9_within : GoodIn wsX9_keep wsX9_within := goodIn_r _ [11] rfl (by decide +kernel)
set_option maxRecDepth 20000 in
theorem gX9_keep_X9_within : GoodIn wsX9_keep (wsV RX9 209 RX9 yX9_within wsX9_within) := goodIn_app (goodIn_of _ (by decide +kernel)) ggX9_keep_X9_within
theorem dX9_keep_0 : decode cX9_keep 0 = .ok (.aload_n 0, 1) := by decide +kernel
theorem dX9_keep_1 : decode cX9_keep 1 = .ok (.iload_n 1, 1) := by decide +kernel
theorem dX9_keep_2 : decode cX9_keep 2 = .ok (.invokevirtual 362, 3) := by decide +kernel
theorem dX9_keep_5 : decode cX9_keep 5 = .ok (.ifCond .eq 18, 3) := by decide +kernel
theorem dX9_keep_8 : decode cX9_keep 8 = .ok (.aload_n 0, 1) := by decide +kernel
theorem dX9_keep_9 : decode cX9_keep 9 = .ok (.iload_n 2, 1) := by decide +kernel
theorem dX9_keep_10 : decode cX9_keep 10 = .ok (.iconst (-1), 1) := by decide +kernel
theorem dX9_keep_11 : decode cX9_keep 11 = .ok (.aload_n 0, 1) := by decide +kernel
theorem dX9_keep_12 : decode cX9_keep 12 = .ok (.getfield 184, 3) := by decide +kernel
theorem dX9_keep_15 : decode cX9_keep 15 = .ok (.iconst 1, 1) := by decide +kernel
theorem dX9_keep_16 : decode cX9_keep 16 = .ok (.isub, 1) := by decide +kernel
theorem dX9_keep_17 : decode cX9_keep 17 = .ok (.invokevirtual 209, 3) := by decide +kernel
theorem dX9_keep_20 : decode cX9_keep 20 = .ok (.ifCond .ne 5, 3) := by decide +kernel
theorem dX9_keep_23 : decode cX9_keep 23 = .ok (.iconst (-1), 1) := by decide +kernel
theorem dX9_keep_24 : decode cX9_keep 24 = .ok (.ireturn, 1) := by decide +kernel
theorem dX9_keep_25 : decode cX9_keep 25 = .ok (.aload_n 0, 1) := by decide +kernel
theorem dX9_keep_26 : decode cX9_keep 26 = .ok (.getfield 196, 3) := by decide +kernel
theorem dX9_keep_29 : decode cX9_keep 29 = .ok (.iload_n 1, 1) := by decide +kernel
theorem dX9_keep_30 : decode cX9_keep 30 = .ok (.iload_n 2, 1) := by decide +kernel
theorem dX9_keep_31 : decode cX9_keep 31 = .ok (.iastore, 1) := by decide +kernel
theorem dX9_keep_32 : decode cX9_keep 32 = .ok (.iconst 1, 1) := by decide +kernel
theorem dX9_keep_33 : decode cX9_keep 33 = .ok (.ireturn, 1) := by decide +kernel
set_option maxRecDepth 20000 in
theorem ggX9_row_X9_isShelf : GoodIn wsX9_row wsX9_isShelf := goodIn_r _ [8, 9, 10, 11, 7, 12] rfl (by decide +kernel)
set_option maxRecDepth 20000 in
theorem gX9_row_X9_isShelf : GoodIn wsX9_row (wsV RX9 362 RX9 yX9_isShelf wsX9_isShelf) := goodIn_app (goodIn_of _ (by decide +kernel)) ggX9_row_X9_isShelf
set_option maxRecDepth 20000 in
theorem ggX9_row_X9_within : GoodIn wsX9_row wsX9_within := goodIn_r _ [12] rfl (by decide +kernel)
set_option maxRecDepth 20000 in
theorem gX9_row_X9_within : GoodIn wsX9_row (wsV RX9 209 RX9 yX9_within wsX9_within) := goodIn_app (goodIn_of _ (by decide +kernel)) ggX9_row_X9_within
theorem dX9_row_0 : decode cX9_row 0 = .ok (.aload_n 0, 1) := by decide +kernel
theorem dX9_row_1 : decode cX9_row 1 = .ok (.iload_n 1, 1) := by decide +kernel
theorem dX9_row_2 : decode cX9_row 2 = .ok (.invokevirtual 362, 3) := by decide +kernel
theorem dX9_row_5 : decode cX9_row 5 = .ok (.ifCond .eq 19, 3) := by decide +kernel
theorem dX9_row_8 : decode cX9_row 8 = .ok (.aload_n 0, 1) := by decide +kernel
theorem dX9_row_9 : decode cX9_row 9 = .ok (.iload_n 2, 1) := by decide +kernel
theorem dX9_row_10 : decode cX9_row 10 = .ok (.iconst 0, 1) := by decide +kernel
theorem dX9_row_11 : decode cX9_row 11 = .ok (.iconst 4, 1) := by decide +kernel
theorem dX9_row_12 : decode cX9_row 12 = .ok (.invokevirtual 209, 3) := by decide +kernel
theorem dX9_row_15 : decode cX9_row 15 = .ok (.ifCond .eq 9, 3) := by decide +kernel
theorem dX9_row_18 : decode cX9_row 18 = .ok (.iload_n 3, 1) := by decide +kernel
theorem dX9_row_19 : decode cX9_row 19 = .ok (.bipush 60, 2) := by decide +kernel
theorem dX9_row_21 : decode cX9_row 21 = .ok (.if_icmp .le 5, 3) := by decide +kernel
theorem dX9_row_24 : decode cX9_row 24 = .ok (.iconst (-1), 1) := by decide +kernel
theorem dX9_row_25 : decode cX9_row 25 = .ok (.ireturn, 1) := by decide +kernel
theorem dX9_row_26 : decode cX9_row 26 = .ok (.iload_n 3, 1) := by decide +kernel
theorem dX9_row_27 : decode cX9_row 27 = .ok (.ifCond .ge 6, 3) := by decide +kernel
theorem dX9_row_30 : decode cX9_row 30 = .ok (.bipush (-14), 2) := by decide +kernel
theorem dX9_row_32 : decode cX9_row 32 = .ok (.ireturn, 1) := by decide +kernel
theorem dX9_row_33 : decode cX9_row 33 = .ok (.aload_n 0, 1) := by decide +kernel
theorem dX9_row_34 : decode cX9_row 34 = .ok (.getfield 196, 3) := by decide +kernel
theorem dX9_row_37 : decode cX9_row 37 = .ok (.iload_n 1, 1) := by decide +kernel
theorem dX9_row_38 : decode cX9_row 38 = .ok (.bipush (-2), 2) := by decide +kernel
theorem dX9_row_40 : decode cX9_row 40 = .ok (.iload_n 2, 1) := by decide +kernel
theorem dX9_row_41 : decode cX9_row 41 = .ok (.isub, 1) := by decide +kernel
theorem dX9_row_42 : decode cX9_row 42 = .ok (.iastore, 1) := by decide +kernel
theorem dX9_row_43 : decode cX9_row 43 = .ok (.aload_n 0, 1) := by decide +kernel
theorem dX9_row_44 : decode cX9_row 44 = .ok (.getfield 199, 3) := by decide +kernel
theorem dX9_row_47 : decode cX9_row 47 = .ok (.iload_n 1, 1) := by decide +kernel
theorem dX9_row_48 : decode cX9_row 48 = .ok (.iload_n 3, 1) := by decide +kernel
theorem dX9_row_49 : decode cX9_row 49 = .ok (.iastore, 1) := by decide +kernel
theorem dX9_row_50 : decode cX9_row 50 = .ok (.iconst 0, 1) := by decide +kernel
theorem dX9_row_51 : decode cX9_row 51 = .ok (.istore 4, 2) := by decide +kernel
theorem dX9_row_53 : decode cX9_row 53 = .ok (.iload 4, 2) := by decide +kernel
theorem dX9_row_55 : decode cX9_row 55 = .ok (.bipush 60, 2) := by decide +kernel
theorem dX9_row_57 : decode cX9_row 57 = .ok (.if_icmp .ge 22, 3) := by decide +kernel
theorem dX9_row_60 : decode cX9_row 60 = .ok (.aload_n 0, 1) := by decide +kernel
theorem dX9_row_61 : decode cX9_row 61 = .ok (.getfield 202, 3) := by decide +kernel
theorem dX9_row_64 : decode cX9_row 64 = .ok (.bipush 60, 2) := by decide +kernel
theorem dX9_row_66 : decode cX9_row 66 = .ok (.iload_n 1, 1) := by decide +kernel
theorem dX9_row_67 : decode cX9_row 67 = .ok (.imul, 1) := by decide +kernel
theorem dX9_row_68 : decode cX9_row 68 = .ok (.iload 4, 2) := by decide +kernel
theorem dX9_row_70 : decode cX9_row 70 = .ok (.iadd, 1) := by decide +kernel
theorem dX9_row_71 : decode cX9_row 71 = .ok (.lconst 0, 1) := by decide +kernel
theorem dX9_row_72 : decode cX9_row 72 = .ok (.lastore, 1) := by decide +kernel
theorem dX9_row_73 : decode cX9_row 73 = .ok (.iinc 4 1, 3) := by decide +kernel
theorem dX9_row_76 : decode cX9_row 76 = .ok (.goto (-23), 3) := by decide +kernel
theorem dX9_row_79 : decode cX9_row 79 = .ok (.iconst 1, 1) := by decide +kernel
theorem dX9_row_80 : decode cX9_row 80 = .ok (.ireturn, 1) := by decide +kernel
theorem dX9_low_0 : decode cX9_low 0 = .ok (.iload_n 1, 1) := by decide +kernel
theorem dX9_low_1 : decode cX9_low 1 = .ok (.tableswitch 61 0 4 #[35, 40, 45, 61, 49], 35) := by decide +kernel
theorem dX9_low_36 : decode cX9_low 36 = .ok (.lload_n 2, 1) := by decide +kernel
theorem dX9_low_37 : decode cX9_low 37 = .ok (.l2i, 1) := by decide +kernel
theorem dX9_low_38 : decode cX9_low 38 = .ok (.i2b, 1) := by decide +kernel
theorem dX9_low_39 : decode cX9_low 39 = .ok (.i2l, 1) := by decide +kernel
theorem dX9_low_40 : decode cX9_low 40 = .ok (.lreturn, 1) := by decide +kernel
theorem dX9_low_41 : decode cX9_low 41 = .ok (.lload_n 2, 1) := by decide +kernel
theorem dX9_low_42 : decode cX9_low 42 = .ok (.l2i, 1) := by decide +kernel
theorem dX9_low_43 : decode cX9_low 43 = .ok (.i2s, 1) := by decide +kernel
theorem dX9_low_44 : decode cX9_low 44 = .ok (.i2l, 1) := by decide +kernel
theorem dX9_low_45 : decode cX9_low 45 = .ok (.lreturn, 1) := by decide +kernel
theorem dX9_low_46 : decode cX9_low 46 = .ok (.lload_n 2, 1) := by decide +kernel
theorem dX9_low_47 : decode cX9_low 47 = .ok (.l2i, 1) := by decide +kernel
theorem dX9_low_48 : decode cX9_low 48 = .ok (.i2l, 1) := by decide +kernel
theorem dX9_low_49 : decode cX9_low 49 = .ok (.lreturn, 1) := by decide +kernel
theorem dX9_low_50 : decode cX9_low 50 = .ok (.lload_n 2, 1) := by decide +kernel
theorem dX9_low_51 : decode cX9_low 51 = .ok (.lconst 0, 1) := by decide +kernel
theorem dX9_low_52 : decode cX9_low 52 = .ok (.lcmp, 1) := by decide +kernel
theorem dX9_low_53 : decode cX9_low 53 = .ok (.ifCond .ne 7, 3) := by decide +kernel
theorem dX9_low_56 : decode cX9_low 56 = .ok (.lconst 0, 1) := by decide +kernel
theorem dX9_low_57 : decode cX9_low 57 = .ok (.goto 4, 3) := by decide +kernel
theorem dX9_low_60 : decode cX9_low 60 = .ok (.lconst 1, 1) := by decide +kernel
theorem dX9_low_61 : decode cX9_low 61 = .ok (.lreturn, 1) := by decide +kernel
theorem dX9_low_62 : decode cX9_low 62 = .ok (.lload_n 2, 1) := by decide +kernel
theorem dX9_low_63 : decode cX9_low 63 = .ok (.lreturn, 1) := by decide +kernel
set_option maxRecDepth 20000 in
theorem ggX9_put_X9_isShelf : GoodIn wsX9_put wsX9_isShelf := goodIn_r _ [8, 9, 10, 11, 7, 12] rfl (by decide +kernel)
set_option maxRecDepth 20000 in
theorem gX9_put_X9_isShelf : GoodIn wsX9_put (wsV RX9 362 RX9 yX9_isShelf wsX9_isShelf) := goodIn_app (goodIn_of _ (by decide +kernel)) ggX9_put_X9_isShelf
set_option maxRecDepth 20000 in
theorem ggX9_put_X9_isRow : GoodIn wsX9_put wsX9_isRow := goodIn_r _ [16, 1, 25, 26, 27, 28, 29, 30, 31, 32, 33, 34, 35, 36, 37, 38, 39, 40, 41, 42, 43, 44, 45, 46, 47, 48, 49, 50, 51, 52, 53, 54, 55, 56, 57, 58, 59, 60, 61, 62, 63, 64, 65, 66, 67, 68, 69, 70, 71, 72, 73, 74, 75, 76, 77, 78, 79, 80, 81, 82, 83, 84, 85, 86, 87, 88, 89] rfl (by decide +kernel)
set_option maxRecDepth 20000 in
theorem gX9_put_X9_isRow : GoodIn wsX9_put (wsV RX9 403 RX9 yX9_isRow wsX9_isRow) := goodIn_app (goodIn_of _ (by decide +kernel)) ggX9_put_X9_isRow
set_option maxRecDepth 20000 in
theorem ggX9_put_X9_within : GoodIn wsX9_put wsX9_within := goodIn_r _ [12] rfl (by decide +kernel)
set_option maxRecDepth 20000 in
theorem gX9_put_X9_within : GoodIn wsX9_put (wsV RX9 209 RX9 yX9_within wsX9_within) := goodIn_app (goodIn_of _ (by decide +kernel)) ggX9_put_X9_within
set_option maxRecDepth 20000 in
theorem ggX9_put_X9_sortOf : GoodIn wsX9_put wsX9_sortOf := goodIn_r _ [20, 1, 25, 26, 27, 28, 29, 30, 31, 32, 33, 34, 35, 36, 37, 38, 39, 40, 41, 42, 43, 44, 45, 46, 47, 48, 49, 50, 51, 52, 53, 54, 55, 56, 57, 58, 59, 60, 61, 62, 63, 64, 65, 66, 67, 68, 69, 70, 71, 72, 73, 74, 75, 76, 77, 78, 79, 80, 81, 82, 83, 84, 85, 86, 87, 88, 89] rfl (by decide +kernel)
set_option maxRecDepth 20000 in
theorem gX9_put_X9_sortOf : GoodIn wsX9_put (wsV RX9 406 RX9 yX9_sortOf wsX9_sortOf) := goodIn_app (goodIn_of _ (by decide +kernel)) ggX9_put_X9_sortOf
set_option maxRecDepth 20000 in
theorem ggX9_put_X9_low : GoodIn wsX9_put wsX9_low := goodIn_r _ [24] rfl (by decide +kernel)
set_option maxRecDepth 20000 in
theorem gX9_put_X9_low : GoodIn wsX9_put (wsV RX9 409 RX9 yX9_low wsX9_low) := goodIn_app (goodIn_of _ (by decide +kernel)) ggX9_put_X9_low
theorem dX9_put_0 : decode cX9_put 0 = .ok (.aload_n 0, 1) := by decide +kernel
theorem dX9_put_1 : decode cX9_put 1 = .ok (.iload_n 1, 1) := by decide +kernel
theorem dX9_put_2 : decode cX9_put 2 = .ok (.invokevirtual 362, 3) := by decide +kernel
theorem dX9_put_5 : decode cX9_put 5 = .ok (.ifCond .ne 5, 3) := by decide +kernel
theorem dX9_put_8 : decode cX9_put 8 = .ok (.iconst (-1), 1) := by decide +kernel
theorem dX9_put_9 : decode cX9_put 9 = .ok (.ireturn, 1) := by decide +kernel
theorem dX9_put_10 : decode cX9_put 10 = .ok (.aload_n 0, 1) := by decide +kernel
theorem dX9_put_11 : decode cX9_put 11 = .ok (.getfield 196, 3) := by decide +kernel
theorem dX9_put_14 : decode cX9_put 14 = .ok (.iload_n 1, 1) := by decide +kernel
theorem dX9_put_15 : decode cX9_put 15 = .ok (.iaload, 1) := by decide +kernel
theorem dX9_put_16 : decode cX9_put 16 = .ok (.iconst (-1), 1) := by decide +kernel
theorem dX9_put_17 : decode cX9_put 17 = .ok (.if_icmp .ne 6, 3) := by decide +kernel
theorem dX9_put_20 : decode cX9_put 20 = .ok (.bipush (-11), 2) := by decide +kernel
theorem dX9_put_22 : decode cX9_put 22 = .ok (.ireturn, 1) := by decide +kernel
theorem dX9_put_23 : decode cX9_put 23 = .ok (.aload_n 0, 1) := by decide +kernel
theorem dX9_put_24 : decode cX9_put 24 = .ok (.iload_n 1, 1) := by decide +kernel
theorem dX9_put_25 : decode cX9_put 25 = .ok (.invokevirtual 403, 3) := by decide +kernel
theorem dX9_put_28 : decode cX9_put 28 = .ok (.ifCond .ne 6, 3) := by decide +kernel
theorem dX9_put_31 : decode cX9_put 31 = .ok (.bipush (-12), 2) := by decide +kernel
theorem dX9_put_33 : decode cX9_put 33 = .ok (.ireturn, 1) := by decide +kernel
theorem dX9_put_34 : decode cX9_put 34 = .ok (.aload_n 0, 1) := by decide +kernel
theorem dX9_put_35 : decode cX9_put 35 = .ok (.iload_n 2, 1) := by decide +kernel
theorem dX9_put_36 : decode cX9_put 36 = .ok (.iconst 0, 1) := by decide +kernel
theorem dX9_put_37 : decode cX9_put 37 = .ok (.aload_n 0, 1) := by decide +kernel
theorem dX9_put_38 : decode cX9_put 38 = .ok (.getfield 199, 3) := by decide +kernel
theorem dX9_put_41 : decode cX9_put 41 = .ok (.iload_n 1, 1) := by decide +kernel
theorem dX9_put_42 : decode cX9_put 42 = .ok (.iaload, 1) := by decide +kernel
theorem dX9_put_43 : decode cX9_put 43 = .ok (.iconst 1, 1) := by decide +kernel
theorem dX9_put_44 : decode cX9_put 44 = .ok (.isub, 1) := by decide +kernel
theorem dX9_put_45 : decode cX9_put 45 = .ok (.invokevirtual 209, 3) := by decide +kernel
theorem dX9_put_48 : decode cX9_put 48 = .ok (.ifCond .ne 6, 3) := by decide +kernel
theorem dX9_put_51 : decode cX9_put 51 = .ok (.bipush (-13), 2) := by decide +kernel
theorem dX9_put_53 : decode cX9_put 53 = .ok (.ireturn, 1) := by decide +kernel
theorem dX9_put_54 : decode cX9_put 54 = .ok (.aload_n 0, 1) := by decide +kernel
theorem dX9_put_55 : decode cX9_put 55 = .ok (.getfield 202, 3) := by decide +kernel
theorem dX9_put_58 : decode cX9_put 58 = .ok (.bipush 60, 2) := by decide +kernel
theorem dX9_put_60 : decode cX9_put 60 = .ok (.iload_n 1, 1) := by decide +kernel
theorem dX9_put_61 : decode cX9_put 61 = .ok (.imul, 1) := by decide +kernel
theorem dX9_put_62 : decode cX9_put 62 = .ok (.iload_n 2, 1) := by decide +kernel
theorem dX9_put_63 : decode cX9_put 63 = .ok (.iadd, 1) := by decide +kernel
theorem dX9_put_64 : decode cX9_put 64 = .ok (.aload_n 0, 1) := by decide +kernel
theorem dX9_put_65 : decode cX9_put 65 = .ok (.aload_n 0, 1) := by decide +kernel
theorem dX9_put_66 : decode cX9_put 66 = .ok (.iload_n 1, 1) := by decide +kernel
theorem dX9_put_67 : decode cX9_put 67 = .ok (.invokevirtual 406, 3) := by decide +kernel
theorem dX9_put_70 : decode cX9_put 70 = .ok (.lload_n 3, 1) := by decide +kernel
theorem dX9_put_71 : decode cX9_put 71 = .ok (.invokevirtual 409, 3) := by decide +kernel
theorem dX9_put_74 : decode cX9_put 74 = .ok (.lastore, 1) := by decide +kernel
theorem dX9_put_75 : decode cX9_put 75 = .ok (.iconst 1, 1) := by decide +kernel
theorem dX9_put_76 : decode cX9_put 76 = .ok (.ireturn, 1) := by decide +kernel
set_option maxRecDepth 20000 in
theorem ggX9_element_X9_isShelf : GoodIn wsX9_element wsX9_isShelf := goodIn_r _ [8, 9, 10, 11, 7, 12] rfl (by decide +kernel)
set_option maxRecDepth 20000 in
theorem gX9_element_X9_isShelf : GoodIn wsX9_element (wsV RX9 362 RX9 yX9_isShelf wsX9_isShelf) := goodIn_app (goodIn_of _ (by decide +kernel)) ggX9_element_X9_isShelf
set_option maxRecDepth 20000 in
theorem ggX9_element_X9_isRow : GoodIn wsX9_element wsX9_isRow := goodIn_r _ [16, 17, 18, 19, 20, 21, 22, 23, 24, 25, 26, 27, 28, 29, 30, 31, 32, 33, 34, 35, 36, 37, 38, 39, 40, 41, 42, 43, 44, 45, 46, 47, 48, 49, 50, 51, 52, 53, 54, 55, 56, 57, 58, 59, 60, 61, 62, 63, 64, 65, 66, 67, 68, 69, 70, 71, 72, 73, 74, 75, 76, 77, 78, 79, 80, 81, 82] rfl (by decide +kernel)
set_option maxRecDepth 20000 in
theorem gX9_element_X9_isRow : GoodIn wsX9_element (wsV RX9 403 RX9 yX9_isRow wsX9_isRow) := goodIn_app (goodIn_of _ (by decide +kernel)) ggX9_element_X9_isRow
set_option maxRecDepth 20000 in
theorem ggX9_element_X9_within : GoodIn wsX9_element wsX9_within := goodIn_r _ [12] rfl (by decide +kernel)
set_option maxRecDepth 20000 in
theorem gX9_element_X9_within : GoodIn wsX9_element (wsV RX9 209 RX9 yX9_within wsX9_within) := goodIn_app (goodIn_of _ (by decide +kernel)) ggX9_element_X9_within
theorem dX9_element_0 : decode cX9_element 0 = .ok (.aload_n 0, 1) := by decide +kernel
theorem dX9_element_1 : decode cX9_element 1 = .ok (.iload_n 1, 1) := by decide +kernel
theorem dX9_element_2 : decode cX9_element 2 = .ok (.invokevirtual 362, 3) := by decide +kernel
theorem dX9_element_5 : decode cX9_element 5 = .ok (.ifCond .eq 28, 3) := by decide +kernel
theorem dX9_element_8 : decode cX9_element 8 = .ok (.aload_n 0, 1) := by decide +kernel
theorem dX9_element_9 : decode cX9_element 9 = .ok (.iload_n 1, 1) := by decide +kernel
theorem dX9_element_10 : decode cX9_element 10 = .ok (.invokevirtual 403, 3) := by decide +kernel
theorem dX9_element_13 : decode cX9_element 13 = .ok (.ifCond .eq 20, 3) := by decide +kernel
theorem dX9_element_16 : decode cX9_element 16 = .ok (.aload_n 0, 1) := by decide +kernel
theorem dX9_element_17 : decode cX9_element 17 = .ok (.iload_n 2, 1) := by decide +kernel
theorem dX9_element_18 : decode cX9_element 18 = .ok (.iconst 0, 1) := by decide +kernel
theorem dX9_element_19 : decode cX9_element 19 = .ok (.aload_n 0, 1) := by decide +kernel
theorem dX9_element_20 : decode cX9_element 20 = .ok (.getfield 199, 3) := by decide +kernel
theorem dX9_element_23 : decode cX9_element 23 = .ok (.iload_n 1, 1) := by decide +kernel
theorem dX9_element_24 : decode cX9_element 24 = .ok (.iaload, 1) := by decide +kernel
theorem dX9_element_25 : decode cX9_element 25 = .ok (.iconst 1, 1) := by decide +kernel
theorem dX9_element_26 : decode cX9_element 26 = .ok (.isub, 1) := by decide +kernel
theorem dX9_element_27 : decode cX9_element 27 = .ok (.invokevirtual 209, 3) := by decide +kernel
theorem dX9_element_30 : decode cX9_element 30 = .ok (.ifCond .ne 9, 3) := by decide +kernel
theorem dX9_element_33 : decode cX9_element 33 = .ok (.ldc2_w 413, 3) := by decide +kernel
theorem dX9_element_36 : decode cX9_element 36 = .ok (.goto 14, 3) := by decide +kernel
theorem dX9_element_39 : decode cX9_element 39 = .ok (.aload_n 0, 1) := by decide +kernel
theorem dX9_element_40 : decode cX9_element 40 = .ok (.getfield 202, 3) := by decide +kernel
theorem dX9_element_43 : decode cX9_element 43 = .ok (.bipush 60, 2) := by decide +kernel
theorem dX9_element_45 : decode cX9_element 45 = .ok (.iload_n 1, 1) := by decide +kernel
theorem dX9_element_46 : decode cX9_element 46 = .ok (.imul, 1) := by decide +kernel
theorem dX9_element_47 : decode cX9_element 47 = .ok (.iload_n 2, 1) := by decide +kernel
theorem dX9_element_48 : decode cX9_element 48 = .ok (.iadd, 1) := by decide +kernel
theorem dX9_element_49 : decode cX9_element 49 = .ok (.laload, 1) := by decide +kernel
theorem dX9_element_50 : decode cX9_element 50 = .ok (.lreturn, 1) := by decide +kernel
set_option maxRecDepth 20000 in
theorem ggX9_shift_X9_isShelf : GoodIn wsX9_shift wsX9_isShelf := goodIn_r _ [9, 10, 11, 12, 8, 13] rfl (by decide +kernel)
set_option maxRecDepth 20000 in
theorem gX9_shift_X9_isShelf : GoodIn wsX9_shift (wsV RX9 362 RX9 yX9_isShelf wsX9_isShelf) := goodIn_app (goodIn_of _ (by decide +kernel)) ggX9_shift_X9_isShelf
set_option maxRecDepth 20000 in
theorem ggX9_shift_X9_isRow : GoodIn wsX9_shift wsX9_isRow := goodIn_r _ [17, 1, 18, 19, 20, 21, 22, 23, 24, 25, 26, 27, 28, 29, 30, 31, 32, 33, 34, 35, 36, 37, 38, 39, 40, 41, 42, 43, 44, 45, 46, 47, 48, 49, 50, 51, 52, 53, 54, 55, 56, 57, 58, 59, 60, 61, 62, 63, 64, 65, 66, 67, 68, 69, 70, 71, 72, 73, 74, 75, 76, 77, 78, 79, 80, 81, 82] rfl (by decide +kernel)
set_option maxRecDepth 20000 in
theorem gX9_shift_X9_isRow : GoodIn wsX9_shift (wsV RX9 403 RX9 yX9_isRow wsX9_isRow) := goodIn_app (goodIn_of _ (by decide +kernel)) ggX9_shift_X9_isRow
theorem dX9_shift_0 : decode cX9_shift 0 = .ok (.aload_n 0, 1) := by decide +kernel
theorem dX9_shift_1 : decode cX9_shift 1 = .ok (.iload_n 1, 1) := by decide +kernel
theorem dX9_shift_2 : decode cX9_shift 2 = .ok (.invokevirtual 362, 3) := by decide +kernel
theorem dX9_shift_5 : decode cX9_shift 5 = .ok (.ifCond .eq 11, 3) := by decide +kernel
theorem dX9_shift_8 : decode cX9_shift 8 = .ok (.aload_n 0, 1) := by decide +kernel
theorem dX9_shift_9 : decode cX9_shift 9 = .ok (.iload_n 3, 1) := by decide +kernel
theorem dX9_shift_10 : decode cX9_shift 10 = .ok (.invokevirtual 362, 3) := by decide +kernel
theorem dX9_shift_13 : decode cX9_shift 13 = .ok (.ifCond .ne 5, 3) := by decide +kernel
theorem dX9_shift_16 : decode cX9_shift 16 = .ok (.iconst (-1), 1) := by decide +kernel
theorem dX9_shift_17 : decode cX9_shift 17 = .ok (.ireturn, 1) := by decide +kernel
theorem dX9_shift_18 : decode cX9_shift 18 = .ok (.aload_n 0, 1) := by decide +kernel
theorem dX9_shift_19 : decode cX9_shift 19 = .ok (.getfield 196, 3) := by decide +kernel
theorem dX9_shift_22 : decode cX9_shift 22 = .ok (.iload_n 1, 1) := by decide +kernel
theorem dX9_shift_23 : decode cX9_shift 23 = .ok (.iaload, 1) := by decide +kernel
theorem dX9_shift_24 : decode cX9_shift 24 = .ok (.iconst (-1), 1) := by decide +kernel
theorem dX9_shift_25 : decode cX9_shift 25 = .ok (.if_icmp .eq 13, 3) := by decide +kernel
theorem dX9_shift_28 : decode cX9_shift 28 = .ok (.aload_n 0, 1) := by decide +kernel
theorem dX9_shift_29 : decode cX9_shift 29 = .ok (.getfield 196, 3) := by decide +kernel
theorem dX9_shift_32 : decode cX9_shift 32 = .ok (.iload_n 3, 1) := by decide +kernel
theorem dX9_shift_33 : decode cX9_shift 33 = .ok (.iaload, 1) := by decide +kernel
theorem dX9_shift_34 : decode cX9_shift 34 = .ok (.iconst (-1), 1) := by decide +kernel
theorem dX9_shift_35 : decode cX9_shift 35 = .ok (.if_icmp .ne 6, 3) := by decide +kernel
theorem dX9_shift_38 : decode cX9_shift 38 = .ok (.bipush (-11), 2) := by decide +kernel
theorem dX9_shift_40 : decode cX9_shift 40 = .ok (.ireturn, 1) := by decide +kernel
theorem dX9_shift_41 : decode cX9_shift 41 = .ok (.aload_n 0, 1) := by decide +kernel
theorem dX9_shift_42 : decode cX9_shift 42 = .ok (.iload_n 1, 1) := by decide +kernel
theorem dX9_shift_43 : decode cX9_shift 43 = .ok (.invokevirtual 403, 3) := by decide +kernel
theorem dX9_shift_46 : decode cX9_shift 46 = .ok (.ifCond .eq 18, 3) := by decide +kernel
theorem dX9_shift_49 : decode cX9_shift 49 = .ok (.aload_n 0, 1) := by decide +kernel
theorem dX9_shift_50 : decode cX9_shift 50 = .ok (.getfield 196, 3) := by decide +kernel
theorem dX9_shift_53 : decode cX9_shift 53 = .ok (.iload_n 1, 1) := by decide +kernel
theorem dX9_shift_54 : decode cX9_shift 54 = .ok (.iaload, 1) := by decide +kernel
theorem dX9_shift_55 : decode cX9_shift 55 = .ok (.aload_n 0, 1) := by decide +kernel
theorem dX9_shift_56 : decode cX9_shift 56 = .ok (.getfield 196, 3) := by decide +kernel
theorem dX9_shift_59 : decode cX9_shift 59 = .ok (.iload_n 3, 1) := by decide +kernel
theorem dX9_shift_60 : decode cX9_shift 60 = .ok (.iaload, 1) := by decide +kernel
theorem dX9_shift_61 : decode cX9_shift 61 = .ok (.if_icmp .eq 6, 3) := by decide +kernel
theorem dX9_shift_64 : decode cX9_shift 64 = .ok (.bipush (-12), 2) := by decide +kernel
theorem dX9_shift_66 : decode cX9_shift 66 = .ok (.ireturn, 1) := by decide +kernel
theorem dX9_shift_67 : decode cX9_shift 67 = .ok (.iload 5, 2) := by decide +kernel
theorem dX9_shift_69 : decode cX9_shift 69 = .ok (.ifCond .lt 39, 3) := by decide +kernel
theorem dX9_shift_72 : decode cX9_shift 72 = .ok (.iload_n 2, 1) := by decide +kernel
theorem dX9_shift_73 : decode cX9_shift 73 = .ok (.ifCond .lt 35, 3) := by decide +kernel
theorem dX9_shift_76 : decode cX9_shift 76 = .ok (.iload 4, 2) := by decide +kernel
theorem dX9_shift_78 : decode cX9_shift 78 = .ok (.ifCond .lt 30, 3) := by decide +kernel
theorem dX9_shift_81 : decode cX9_shift 81 = .ok (.iload_n 2, 1) := by decide +kernel
theorem dX9_shift_82 : decode cX9_shift 82 = .ok (.aload_n 0, 1) := by decide +kernel
theorem dX9_shift_83 : decode cX9_shift 83 = .ok (.getfield 199, 3) := by decide +kernel
theorem dX9_shift_86 : decode cX9_shift 86 = .ok (.iload_n 1, 1) := by decide +kernel
theorem dX9_shift_87 : decode cX9_shift 87 = .ok (.iaload, 1) := by decide +kernel
theorem dX9_shift_88 : decode cX9_shift 88 = .ok (.iload 5, 2) := by decide +kernel
theorem dX9_shift_90 : decode cX9_shift 90 = .ok (.isub, 1) := by decide +kernel
theorem dX9_shift_91 : decode cX9_shift 91 = .ok (.if_icmp .gt 17, 3) := by decide +kernel
theorem dX9_shift_94 : decode cX9_shift 94 = .ok (.iload 4, 2) := by decide +kernel
theorem dX9_shift_96 : decode cX9_shift 96 = .ok (.aload_n 0, 1) := by decide +kernel
theorem dX9_shift_97 : decode cX9_shift 97 = .ok (.getfield 199, 3) := by decide +kernel
theorem dX9_shift_100 : decode cX9_shift 100 = .ok (.iload_n 3, 1) := by decide +kernel
theorem dX9_shift_101 : decode cX9_shift 101 = .ok (.iaload, 1) := by decide +kernel
theorem dX9_shift_102 : decode cX9_shift 102 = .ok (.iload 5, 2) := by decide +kernel
theorem dX9_shift_104 : decode cX9_shift 104 = .ok (.isub, 1) := by decide +kernel
theorem dX9_shift_105 : decode cX9_shift 105 = .ok (.if_icmp .le 6, 3) := by decide +kernel
theorem dX9_shift_108 : decode cX9_shift 108 = .ok (.bipush (-13), 2) := by decide +kernel
theorem dX9_shift_110 : decode cX9_shift 110 = .ok (.ireturn, 1) := by decide +kernel
theorem dX9_shift_111 : decode cX9_shift 111 = .ok (.iconst 0, 1) := by decide +kernel
theorem dX9_shift_112 : decode cX9_shift 112 = .ok (.istore 6, 2) := by decide +kernel
theorem dX9_shift_114 : decode cX9_shift 114 = .ok (.iload 6, 2) := by decide +kernel
theorem dX9_shift_116 : decode cX9_shift 116 = .ok (.iload 5, 2) := by decide +kernel
theorem dX9_shift_118 : decode cX9_shift 118 = .ok (.if_icmp .ge 30, 3) := by decide +kernel
theorem dX9_shift_121 : decode cX9_shift 121 = .ok (.aload_n 0, 1) := by decide +kernel
theorem dX9_shift_122 : decode cX9_shift 122 = .ok (.getfield 206, 3) := by decide +kernel
theorem dX9_shift_125 : decode cX9_shift 125 = .ok (.iload 6, 2) := by decide +kernel
theorem dX9_shift_127 : decode cX9_shift 127 = .ok (.aload_n 0, 1) := by decide +kernel
theorem dX9_shift_128 : decode cX9_shift 128 = .ok (.getfield 202, 3) := by decide +kernel
theorem dX9_shift_131 : decode cX9_shift 131 = .ok (.bipush 60, 2) := by decide +kernel
theorem dX9_shift_133 : decode cX9_shift 133 = .ok (.iload_n 1, 1) := by decide +kernel
theorem dX9_shift_134 : decode cX9_shift 134 = .ok (.imul, 1) := by decide +kernel
theorem dX9_shift_135 : decode cX9_shift 135 = .ok (.iload_n 2, 1) := by decide +kernel
theorem dX9_shift_136 : decode cX9_shift 136 = .ok (.iadd, 1) := by decide +kernel
theorem dX9_shift_137 : decode cX9_shift 137 = .ok (.iload 6, 2) := by decide +kernel
theorem dX9_shift_139 : decode cX9_shift 139 = .ok (.iadd, 1) := by decide +kernel
theorem dX9_shift_140 : decode cX9_shift 140 = .ok (.laload, 1) := by decide +kernel
theorem dX9_shift_141 : decode cX9_shift 141 = .ok (.lastore, 1) := by decide +kernel
theorem dX9_shift_142 : decode cX9_shift 142 = .ok (.iinc 6 1, 3) := by decide +kernel
theorem dX9_shift_145 : decode cX9_shift 145 = .ok (.goto (-31), 3) := by decide +kernel
theorem dX9_shift_148 : decode cX9_shift 148 = .ok (.iconst 0, 1) := by decide +kernel
theorem dX9_shift_149 : decode cX9_shift 149 = .ok (.istore 6, 2) := by decide +kernel
theorem dX9_shift_151 : decode cX9_shift 151 = .ok (.iload 6, 2) := by decide +kernel
theorem dX9_shift_153 : decode cX9_shift 153 = .ok (.iload 5, 2) := by decide +kernel
theorem dX9_shift_155 : decode cX9_shift 155 = .ok (.if_icmp .ge 31, 3) := by decide +kernel
theorem dX9_shift_158 : decode cX9_shift 158 = .ok (.aload_n 0, 1) := by decide +kernel
theorem dX9_shift_159 : decode cX9_shift 159 = .ok (.getfield 202, 3) := by decide +kernel
theorem dX9_shift_162 : decode cX9_shift 162 = .ok (.bipush 60, 2) := by decide +kernel
theorem dX9_shift_164 : decode cX9_shift 164 = .ok (.iload_n 3, 1) := by decide +kernel
theorem dX9_shift_165 : decode cX9_shift 165 = .ok (.imul, 1) := by decide +kernel
theorem dX9_shift_166 : decode cX9_shift 166 = .ok (.iload 4, 2) := by decide +kernel
theorem dX9_shift_168 : decode cX9_shift 168 = .ok (.iadd, 1) := by decide +kernel
theorem dX9_shift_169 : decode cX9_shift 169 = .ok (.iload 6, 2) := by decide +kernel
theorem dX9_shift_171 : decode cX9_shift 171 = .ok (.iadd, 1) := by decide +kernel
theorem dX9_shift_172 : decode cX9_shift 172 = .ok (.aload_n 0, 1) := by decide +kernel
theorem dX9_shift_173 : decode cX9_shift 173 = .ok (.getfield 206, 3) := by decide +kernel
theorem dX9_shift_176 : decode cX9_shift 176 = .ok (.iload 6, 2) := by decide +kernel
theorem dX9_shift_178 : decode cX9_shift 178 = .ok (.laload, 1) := by decide +kernel
theorem dX9_shift_179 : decode cX9_shift 179 = .ok (.lastore, 1) := by decide +kernel
theorem dX9_shift_180 : decode cX9_shift 180 = .ok (.iinc 6 1, 3) := by decide +kernel
theorem dX9_shift_183 : decode cX9_shift 183 = .ok (.goto (-32), 3) := by decide +kernel
theorem dX9_shift_186 : decode cX9_shift 186 = .ok (.iload 5, 2) := by decide +kernel
theorem dX9_shift_188 : decode cX9_shift 188 = .ok (.ireturn, 1) := by decide +kernel
theorem dX9_isUnder_0 : decode cX9_isUnder 0 = .ok (.iload_n 2, 1) := by decide +kernel
theorem dX9_isUnder_1 : decode cX9_isUnder 1 = .ok (.tableswitch 109 0 4 #[35, 37, 59, 75, 92], 35) := by decide +kernel
theorem dX9_isUnder_36 : decode cX9_isUnder 36 = .ok (.iconst 1, 1) := by decide +kernel
theorem dX9_isUnder_37 : decode cX9_isUnder 37 = .ok (.ireturn, 1) := by decide +kernel
theorem dX9_isUnder_38 : decode cX9_isUnder 38 = .ok (.iload_n 1, 1) := by decide +kernel
theorem dX9_isUnder_39 : decode cX9_isUnder 39 = .ok (.iconst 1, 1) := by decide +kernel
theorem dX9_isUnder_40 : decode cX9_isUnder 40 = .ok (.if_icmp .eq 14, 3) := by decide +kernel
theorem dX9_isUnder_43 : decode cX9_isUnder 43 = .ok (.iload_n 1, 1) := by decide +kernel
theorem dX9_isUnder_44 : decode cX9_isUnder 44 = .ok (.iconst 3, 1) := by decide +kernel
theorem dX9_isUnder_45 : decode cX9_isUnder 45 = .ok (.if_icmp .eq 9, 3) := by decide +kernel
theorem dX9_isUnder_48 : decode cX9_isUnder 48 = .ok (.iload_n 1, 1) := by decide +kernel
theorem dX9_isUnder_49 : decode cX9_isUnder 49 = .ok (.bipush 7, 2) := by decide +kernel
theorem dX9_isUnder_51 : decode cX9_isUnder 51 = .ok (.if_icmp .ne 7, 3) := by decide +kernel
theorem dX9_isUnder_54 : decode cX9_isUnder 54 = .ok (.iconst 1, 1) := by decide +kernel
theorem dX9_isUnder_55 : decode cX9_isUnder 55 = .ok (.goto 4, 3) := by decide +kernel
theorem dX9_isUnder_58 : decode cX9_isUnder 58 = .ok (.iconst 0, 1) := by decide +kernel
theorem dX9_isUnder_59 : decode cX9_isUnder 59 = .ok (.ireturn, 1) := by decide +kernel
theorem dX9_isUnder_60 : decode cX9_isUnder 60 = .ok (.iload_n 1, 1) := by decide +kernel
theorem dX9_isUnder_61 : decode cX9_isUnder 61 = .ok (.iconst 2, 1) := by decide +kernel
theorem dX9_isUnder_62 : decode cX9_isUnder 62 = .ok (.if_icmp .eq 8, 3) := by decide +kernel
theorem dX9_isUnder_65 : decode cX9_isUnder 65 = .ok (.iload_n 1, 1) := by decide +kernel
theorem dX9_isUnder_66 : decode cX9_isUnder 66 = .ok (.iconst 5, 1) := by decide +kernel
theorem dX9_isUnder_67 : decode cX9_isUnder 67 = .ok (.if_icmp .ne 7, 3) := by decide +kernel
theorem dX9_isUnder_70 : decode cX9_isUnder 70 = .ok (.iconst 1, 1) := by decide +kernel
theorem dX9_isUnder_71 : decode cX9_isUnder 71 = .ok (.goto 4, 3) := by decide +kernel
theorem dX9_isUnder_74 : decode cX9_isUnder 74 = .ok (.iconst 0, 1) := by decide +kernel
theorem dX9_isUnder_75 : decode cX9_isUnder 75 = .ok (.ireturn, 1) := by decide +kernel
theorem dX9_isUnder_76 : decode cX9_isUnder 76 = .ok (.iload_n 1, 1) := by decide +kernel
theorem dX9_isUnder_77 : decode cX9_isUnder 77 = .ok (.iconst 3, 1) := by decide +kernel
theorem dX9_isUnder_78 : decode cX9_isUnder 78 = .ok (.if_icmp .eq 9, 3) := by decide +kernel
theorem dX9_isUnder_81 : decode cX9_isUnder 81 = .ok (.iload_n 1, 1) := by decide +kernel
theorem dX9_isUnder_82 : decode cX9_isUnder 82 = .ok (.bipush 7, 2) := by decide +kernel
theorem dX9_isUnder_84 : decode cX9_isUnder 84 = .ok (.if_icmp .ne 7, 3) := by decide +kernel
theorem dX9_isUnder_87 : decode cX9_isUnder 87 = .ok (.iconst 1, 1) := by decide +kernel
theorem dX9_isUnder_88 : decode cX9_isUnder 88 = .ok (.goto 4, 3) := by decide +kernel
theorem dX9_isUnder_91 : decode cX9_isUnder 91 = .ok (.iconst 0, 1) := by decide +kernel
theorem dX9_isUnder_92 : decode cX9_isUnder 92 = .ok (.ireturn, 1) := by decide +kernel
theorem dX9_isUnder_93 : decode cX9_isUnder 93 = .ok (.iload_n 1, 1) := by decide +kernel
theorem dX9_isUnder_94 : decode cX9_isUnder 94 = .ok (.iconst 4, 1) := by decide +kernel
theorem dX9_isUnder_95 : decode cX9_isUnder 95 = .ok (.if_icmp .eq 9, 3) := by decide +kernel
theorem dX9_isUnder_98 : decode cX9_isUnder 98 = .ok (.iload_n 1, 1) := by decide +kernel
theorem dX9_isUnder_99 : decode cX9_isUnder 99 = .ok (.bipush 6, 2) := by decide +kernel
theorem dX9_isUnder_101 : decode cX9_isUnder 101 = .ok (.if_icmp .ne 7, 3) := by decide +kernel
theorem dX9_isUnder_104 : decode cX9_isUnder 104 = .ok (.iconst 1, 1) := by decide +kernel
theorem dX9_isUnder_105 : decode cX9_isUnder 105 = .ok (.goto 4, 3) := by decide +kernel
theorem dX9_isUnder_108 : decode cX9_isUnder 108 = .ok (.iconst 0, 1) := by decide +kernel
theorem dX9_isUnder_109 : decode cX9_isUnder 109 = .ok (.ireturn, 1) := by decide +kernel
theorem dX9_isUnder_110 : decode cX9_isUnder 110 = .ok (.iload_n 1, 1) := by decide +kernel
theorem dX9_isUnder_111 : decode cX9_isUnder 111 = .ok (.iload_n 2, 1) := by decide +kernel
theorem dX9_isUnder_112 : decode cX9_isUnder 112 = .ok (.if_icmp .ne 7, 3) := by decide +kernel
theorem dX9_isUnder_115 : decode cX9_isUnder 115 = .ok (.iconst 1, 1) := by decide +kernel
theorem dX9_isUnder_116 : decode cX9_isUnder 116 = .ok (.goto 4, 3) := by decide +kernel
theorem dX9_isUnder_119 : decode cX9_isUnder 119 = .ok (.iconst 0, 1) := by decide +kernel
theorem dX9_isUnder_120 : decode cX9_isUnder 120 = .ok (.ireturn, 1) := by decide +kernel
set_option maxRecDepth 20000 in
theorem ggX9_taken_X9_isShelf : GoodIn wsX9_taken wsX9_isShelf := goodIn_r _ [7, 8, 9, 10, 6, 11] rfl (by decide +kernel)
set_option maxRecDepth 20000 in
theorem gX9_taken_X9_isShelf : GoodIn wsX9_taken (wsV RX9 362 RX9 yX9_isShelf wsX9_isShelf) := goodIn_app (goodIn_of _ (by decide +kernel)) ggX9_taken_X9_isShelf
set_option maxRecDepth 20000 in
theorem ggX9_taken_X9_within : GoodIn wsX9_taken wsX9_within := goodIn_r _ [11] rfl (by decide +kernel)
set_option maxRecDepth 20000 in
theorem gX9_taken_X9_within : GoodIn wsX9_taken (wsV RX9 209 RX9 yX9_within wsX9_within) := goodIn_app (goodIn_of _ (by decide +kernel)) ggX9_taken_X9_within
set_option maxRecDepth 20000 in
theorem ggX9_taken_X9_isRow : GoodIn wsX9_taken wsX9_isRow := goodIn_r _ [15, 1, 20, 21, 22, 23, 24, 25, 26, 27, 28, 29, 30, 31, 32, 33, 34, 35, 36, 37, 38, 39, 40, 41, 42, 43, 44, 45, 46, 47, 48, 49, 50, 51, 52, 53, 54, 55, 56, 57, 58, 59, 60, 61, 62, 63, 64, 65, 66, 67, 68, 69, 70, 71, 72, 73, 74, 75, 76, 77, 78, 79, 80, 81, 82, 83, 84] rfl (by decide +kernel)
set_option maxRecDepth 20000 in
theorem gX9_taken_X9_isRow : GoodIn wsX9_taken (wsV RX9 403 RX9 yX9_isRow wsX9_isRow) := goodIn_app (goodIn_of _ (by decide +kernel)) ggX9_taken_X9_isRow
set_option maxRecDepth 20000 in
theorem ggX9_taken_X9_isUnder : GoodIn wsX9_taken wsX9_isUnder := goodIn_r _ [19] rfl (by decide +kernel)
set_option maxRecDepth 20000 in
theorem gX9_taken_X9_isUnder : GoodIn wsX9_taken (wsV RX9 415 RX9 yX9_isUnder wsX9_isUnder) := goodIn_app (goodIn_of _ (by decide +kernel)) ggX9_taken_X9_isUnder
theorem dX9_taken_0 : decode cX9_taken 0 = .ok (.aload_n 0, 1) := by decide +kernel
theorem dX9_taken_1 : decode cX9_taken 1 = .ok (.iload_n 1, 1) := by decide +kernel
theorem dX9_taken_2 : decode cX9_taken 2 = .ok (.invokevirtual 362, 3) := by decide +kernel
theorem dX9_taken_5 : decode cX9_taken 5 = .ok (.ifCond .eq 14, 3) := by decide +kernel
theorem dX9_taken_8 : decode cX9_taken 8 = .ok (.aload_n 0, 1) := by decide +kernel
theorem dX9_taken_9 : decode cX9_taken 9 = .ok (.iload_n 2, 1) := by decide +kernel
theorem dX9_taken_10 : decode cX9_taken 10 = .ok (.iconst 0, 1) := by decide +kernel
theorem dX9_taken_11 : decode cX9_taken 11 = .ok (.bipush 7, 2) := by decide +kernel
theorem dX9_taken_13 : decode cX9_taken 13 = .ok (.invokevirtual 209, 3) := by decide +kernel
theorem dX9_taken_16 : decode cX9_taken 16 = .ok (.ifCond .ne 5, 3) := by decide +kernel
theorem dX9_taken_19 : decode cX9_taken 19 = .ok (.iconst (-1), 1) := by decide +kernel
theorem dX9_taken_20 : decode cX9_taken 20 = .ok (.ireturn, 1) := by decide +kernel
theorem dX9_taken_21 : decode cX9_taken 21 = .ok (.aload_n 0, 1) := by decide +kernel
theorem dX9_taken_22 : decode cX9_taken 22 = .ok (.getfield 196, 3) := by decide +kernel
theorem dX9_taken_25 : decode cX9_taken 25 = .ok (.iload_n 1, 1) := by decide +kernel
theorem dX9_taken_26 : decode cX9_taken 26 = .ok (.iaload, 1) := by decide +kernel
theorem dX9_taken_27 : decode cX9_taken 27 = .ok (.iconst (-1), 1) := by decide +kernel
theorem dX9_taken_28 : decode cX9_taken 28 = .ok (.if_icmp .ne 6, 3) := by decide +kernel
theorem dX9_taken_31 : decode cX9_taken 31 = .ok (.bipush (-11), 2) := by decide +kernel
theorem dX9_taken_33 : decode cX9_taken 33 = .ok (.ireturn, 1) := by decide +kernel
theorem dX9_taken_34 : decode cX9_taken 34 = .ok (.aload_n 0, 1) := by decide +kernel
theorem dX9_taken_35 : decode cX9_taken 35 = .ok (.iload_n 1, 1) := by decide +kernel
theorem dX9_taken_36 : decode cX9_taken 36 = .ok (.invokevirtual 403, 3) := by decide +kernel
theorem dX9_taken_39 : decode cX9_taken 39 = .ok (.ifCond .ne 22, 3) := by decide +kernel
theorem dX9_taken_42 : decode cX9_taken 42 = .ok (.aload_n 0, 1) := by decide +kernel
theorem dX9_taken_43 : decode cX9_taken 43 = .ok (.aload_n 0, 1) := by decide +kernel
theorem dX9_taken_44 : decode cX9_taken 44 = .ok (.getfield 190, 3) := by decide +kernel
theorem dX9_taken_47 : decode cX9_taken 47 = .ok (.aload_n 0, 1) := by decide +kernel
theorem dX9_taken_48 : decode cX9_taken 48 = .ok (.getfield 196, 3) := by decide +kernel
theorem dX9_taken_51 : decode cX9_taken 51 = .ok (.iload_n 1, 1) := by decide +kernel
theorem dX9_taken_52 : decode cX9_taken 52 = .ok (.iaload, 1) := by decide +kernel
theorem dX9_taken_53 : decode cX9_taken 53 = .ok (.iaload, 1) := by decide +kernel
theorem dX9_taken_54 : decode cX9_taken 54 = .ok (.iload_n 2, 1) := by decide +kernel
theorem dX9_taken_55 : decode cX9_taken 55 = .ok (.invokevirtual 415, 3) := by decide +kernel
theorem dX9_taken_58 : decode cX9_taken 58 = .ok (.ifCond .ne 8, 3) := by decide +kernel
theorem dX9_taken_61 : decode cX9_taken 61 = .ok (.bipush (-12), 2) := by decide +kernel
theorem dX9_taken_63 : decode cX9_taken 63 = .ok (.goto 14, 3) := by decide +kernel
theorem dX9_taken_66 : decode cX9_taken 66 = .ok (.aload_n 0, 1) := by decide +kernel
theorem dX9_taken_67 : decode cX9_taken 67 = .ok (.getfield 190, 3) := by decide +kernel
theorem dX9_taken_70 : decode cX9_taken 70 = .ok (.aload_n 0, 1) := by decide +kernel
theorem dX9_taken_71 : decode cX9_taken 71 = .ok (.getfield 196, 3) := by decide +kernel
theorem dX9_taken_74 : decode cX9_taken 74 = .ok (.iload_n 1, 1) := by decide +kernel
theorem dX9_taken_75 : decode cX9_taken 75 = .ok (.iaload, 1) := by decide +kernel
theorem dX9_taken_76 : decode cX9_taken 76 = .ok (.iaload, 1) := by decide +kernel
theorem dX9_taken_77 : decode cX9_taken 77 = .ok (.ireturn, 1) := by decide +kernel
theorem dX9_number_0 : decode cX9_number 0 = .ok (.iload_n 2, 1) := by decide +kernel
theorem dX9_number_1 : decode cX9_number 1 = .ok (.aload_n 0, 1) := by decide +kernel
theorem dX9_number_2 : decode cX9_number 2 = .ok (.getfield 199, 3) := by decide +kernel
theorem dX9_number_5 : decode cX9_number 5 = .ok (.iload_n 1, 1) := by decide +kernel
theorem dX9_number_6 : decode cX9_number 6 = .ok (.iaload, 1) := by decide +kernel
theorem dX9_number_7 : decode cX9_number 7 = .ok (.if_icmp .ge 18, 3) := by decide +kernel
theorem dX9_number_10 : decode cX9_number 10 = .ok (.aload_n 0, 1) := by decide +kernel
theorem dX9_number_11 : decode cX9_number 11 = .ok (.getfield 202, 3) := by decide +kernel
theorem dX9_number_14 : decode cX9_number 14 = .ok (.bipush 60, 2) := by decide +kernel
theorem dX9_number_16 : decode cX9_number 16 = .ok (.iload_n 1, 1) := by decide +kernel
theorem dX9_number_17 : decode cX9_number 17 = .ok (.imul, 1) := by decide +kernel
theorem dX9_number_18 : decode cX9_number 18 = .ok (.iload_n 2, 1) := by decide +kernel
theorem dX9_number_19 : decode cX9_number 19 = .ok (.iadd, 1) := by decide +kernel
theorem dX9_number_20 : decode cX9_number 20 = .ok (.laload, 1) := by decide +kernel
theorem dX9_number_21 : decode cX9_number 21 = .ok (.l2i, 1) := by decide +kernel
theorem dX9_number_22 : decode cX9_number 22 = .ok (.goto 4, 3) := by decide +kernel
theorem dX9_number_25 : decode cX9_number 25 = .ok (.iconst (-1), 1) := by decide +kernel
theorem dX9_number_26 : decode cX9_number 26 = .ok (.ireturn, 1) := by decide +kernel
set_option maxRecDepth 20000 in
theorem ggX9_roads_X9_isShelf : GoodIn wsX9_roads wsX9_isShelf := goodIn_r _ [8, 9, 10, 11, 7, 12] rfl (by decide +kernel)
set_option maxRecDepth 20000 in
theorem gX9_roads_X9_isShelf : GoodIn wsX9_roads (wsV RX9 362 RX9 yX9_isShelf wsX9_isShelf) := goodIn_app (goodIn_of _ (by decide +kernel)) ggX9_roads_X9_isShelf
set_option maxRecDepth 20000 in
theorem ggX9_roads_X9_within : GoodIn wsX9_roads wsX9_within := goodIn_r _ [12] rfl (by decide +kernel)
set_option maxRecDepth 20000 in
theorem gX9_roads_X9_within : GoodIn wsX9_roads (wsV RX9 209 RX9 yX9_within wsX9_within) := goodIn_app (goodIn_of _ (by decide +kernel)) ggX9_roads_X9_within
set_option maxRecDepth 20000 in
theorem ggX9_roads_X9_number : GoodIn wsX9_roads wsX9_number := goodIn_r _ [16, 3, 17, 40, 41, 42, 43, 44, 45, 46, 47, 48, 49, 50, 51, 52, 53, 54, 55, 56, 57, 58, 59, 60, 61, 62, 63, 64, 65, 66, 67, 68, 69, 70, 71, 72, 73, 74, 75, 76, 77, 78, 79, 80, 81, 82, 83, 84, 85, 86, 87, 88, 89, 90, 91, 92, 93, 94, 95, 96, 97, 98, 99, 100, 101, 102, 103, 104] rfl (by decide +kernel)
set_option maxRecDepth 20000 in
theorem gX9_roads_X9_number : GoodIn wsX9_roads (wsV RX9 418 RX9 yX9_number wsX9_number) := goodIn_app (goodIn_of _ (by decide +kernel)) ggX9_roads_X9_number
set_option maxRecDepth 20000 in
theorem ggX9_roads_X9_mayRoad : GoodIn wsX9_roads wsX9_mayRoad := goodIn_r _ [21, 22, 23, 24, 7, 25, 9, 10, 11, 12, 26, 27, 28, 29, 30, 40, 41, 42, 43, 44, 45, 46, 47, 48, 49, 50, 51, 52, 53, 54, 55, 56, 57, 58, 59, 60, 61, 62, 63, 64, 65, 66, 67, 68, 69, 70, 71, 72, 73, 74, 75, 76, 77, 78, 79, 80, 81, 82, 83, 84, 85, 86, 87, 88, 89, 90, 91, 92, 93, 94, 95, 96, 97, 98, 99, 100, 101, 102, 103, 104] rfl (by decide +kernel)
set_option maxRecDepth 20000 in
theorem gX9_roads_X9_mayRoad : GoodIn wsX9_roads (wsV RX9 220 RX9 yX9_mayRoad wsX9_mayRoad) := goodIn_app (goodIn_of _ (by decide +kernel)) ggX9_roads_X9_mayRoad
set_option maxRecDepth 20000 in
theorem ggX9_roads_X9_addRoad : GoodIn wsX9_roads wsX9_addRoad := goodIn_r _ [34, 35, 2, 36, 37, 38, 39, 40, 41, 42, 43, 44, 45, 46, 47, 48, 49, 50, 51, 52, 53, 54, 55, 56, 57, 58, 59, 60, 61, 62, 63, 64, 65, 66, 67, 68, 69, 70, 71, 72, 73, 74, 75, 76, 77, 78, 79, 80, 81, 82, 83, 84, 85, 86, 87, 88, 89, 90, 91, 92, 93, 94, 95, 96, 97, 98, 99, 100, 101, 102, 103, 104] rfl (by decide +kernel)
set_option maxRecDepth 20000 in
theorem gX9_roads_X9_addRoad : GoodIn wsX9_roads (wsV RX9 224 RX9 yX9_addRoad wsX9_addRoad) := goodIn_app (goodIn_of _ (by decide +kernel)) ggX9_roads_X9_addRoad
theorem dX9_roads_0 : decode cX9_roads 0 = .ok (.aload_n 0, 1) := by decide +kernel
theorem dX9_roads_1 : decode cX9_roads 1 = .ok (.iload_n 1, 1) := by decide +kernel
theorem dX9_roads_2 : decode cX9_roads 2 = .ok (.invokevirtual 362, 3) := by decide +kernel
theorem dX9_roads_5 : decode cX9_roads 5 = .ok (.ifCond .eq 14, 3) := by decide +kernel
theorem dX9_roads_8 : decode cX9_roads 8 = .ok (.aload_n 0, 1) := by decide +kernel
theorem dX9_roads_9 : decode cX9_roads 9 = .ok (.iload_n 3, 1) := by decide +kernel
theorem dX9_roads_10 : decode cX9_roads 10 = .ok (.iconst 1, 1) := by decide +kernel
theorem dX9_roads_11 : decode cX9_roads 11 = .ok (.bipush 15, 2) := by decide +kernel
theorem dX9_roads_13 : decode cX9_roads 13 = .ok (.invokevirtual 209, 3) := by decide +kernel
theorem dX9_roads_16 : decode cX9_roads 16 = .ok (.ifCond .ne 5, 3) := by decide +kernel
theorem dX9_roads_19 : decode cX9_roads 19 = .ok (.iconst (-1), 1) := by decide +kernel
theorem dX9_roads_20 : decode cX9_roads 20 = .ok (.ireturn, 1) := by decide +kernel
theorem dX9_roads_21 : decode cX9_roads 21 = .ok (.aload_n 0, 1) := by decide +kernel
theorem dX9_roads_22 : decode cX9_roads 22 = .ok (.getfield 196, 3) := by decide +kernel
theorem dX9_roads_25 : decode cX9_roads 25 = .ok (.iload_n 1, 1) := by decide +kernel
theorem dX9_roads_26 : decode cX9_roads 26 = .ok (.iaload, 1) := by decide +kernel
theorem dX9_roads_27 : decode cX9_roads 27 = .ok (.iconst (-1), 1) := by decide +kernel
theorem dX9_roads_28 : decode cX9_roads 28 = .ok (.if_icmp .ne 5, 3) := by decide +kernel
theorem dX9_roads_31 : decode cX9_roads 31 = .ok (.iconst 0, 1) := by decide +kernel
theorem dX9_roads_32 : decode cX9_roads 32 = .ok (.ireturn, 1) := by decide +kernel
theorem dX9_roads_33 : decode cX9_roads 33 = .ok (.aload_n 0, 1) := by decide +kernel
theorem dX9_roads_34 : decode cX9_roads 34 = .ok (.getfield 196, 3) := by decide +kernel
theorem dX9_roads_37 : decode cX9_roads 37 = .ok (.iload_n 1, 1) := by decide +kernel
theorem dX9_roads_38 : decode cX9_roads 38 = .ok (.iaload, 1) := by decide +kernel
theorem dX9_roads_39 : decode cX9_roads 39 = .ok (.bipush (-3), 2) := by decide +kernel
theorem dX9_roads_41 : decode cX9_roads 41 = .ok (.if_icmp .eq 6, 3) := by decide +kernel
theorem dX9_roads_44 : decode cX9_roads 44 = .ok (.bipush (-12), 2) := by decide +kernel
theorem dX9_roads_46 : decode cX9_roads 46 = .ok (.ireturn, 1) := by decide +kernel
theorem dX9_roads_47 : decode cX9_roads 47 = .ok (.iconst 0, 1) := by decide +kernel
theorem dX9_roads_48 : decode cX9_roads 48 = .ok (.istore 4, 2) := by decide +kernel
theorem dX9_roads_50 : decode cX9_roads 50 = .ok (.iload_n 2, 1) := by decide +kernel
theorem dX9_roads_51 : decode cX9_roads 51 = .ok (.istore 5, 2) := by decide +kernel
theorem dX9_roads_53 : decode cX9_roads 53 = .ok (.iload 4, 2) := by decide +kernel
theorem dX9_roads_55 : decode cX9_roads 55 = .ok (.iload_n 3, 1) := by decide +kernel
theorem dX9_roads_56 : decode cX9_roads 56 = .ok (.if_icmp .ge 120, 3) := by decide +kernel
theorem dX9_roads_59 : decode cX9_roads 59 = .ok (.aload_n 0, 1) := by decide +kernel
theorem dX9_roads_60 : decode cX9_roads 60 = .ok (.getfield 13, 3) := by decide +kernel
theorem dX9_roads_63 : decode cX9_roads 63 = .ok (.bipush 16, 2) := by decide +kernel
theorem dX9_roads_65 : decode cX9_roads 65 = .ok (.if_icmp .ge 111, 3) := by decide +kernel
theorem dX9_roads_68 : decode cX9_roads 68 = .ok (.aload_n 0, 1) := by decide +kernel
theorem dX9_roads_69 : decode cX9_roads 69 = .ok (.iload 5, 2) := by decide +kernel
theorem dX9_roads_71 : decode cX9_roads 71 = .ok (.iconst 0, 1) := by decide +kernel
theorem dX9_roads_72 : decode cX9_roads 72 = .ok (.aload_n 0, 1) := by decide +kernel
theorem dX9_roads_73 : decode cX9_roads 73 = .ok (.getfield 199, 3) := by decide +kernel
theorem dX9_roads_76 : decode cX9_roads 76 = .ok (.iload_n 1, 1) := by decide +kernel
theorem dX9_roads_77 : decode cX9_roads 77 = .ok (.iaload, 1) := by decide +kernel
theorem dX9_roads_78 : decode cX9_roads 78 = .ok (.iconst 4, 1) := by decide +kernel
theorem dX9_roads_79 : decode cX9_roads 79 = .ok (.isub, 1) := by decide +kernel
theorem dX9_roads_80 : decode cX9_roads 80 = .ok (.invokevirtual 209, 3) := by decide +kernel
theorem dX9_roads_83 : decode cX9_roads 83 = .ok (.ifCond .eq 93, 3) := by decide +kernel
theorem dX9_roads_86 : decode cX9_roads 86 = .ok (.aload_n 0, 1) := by decide +kernel
theorem dX9_roads_87 : decode cX9_roads 87 = .ok (.aload_n 0, 1) := by decide +kernel
theorem dX9_roads_88 : decode cX9_roads 88 = .ok (.iload_n 1, 1) := by decide +kernel
theorem dX9_roads_89 : decode cX9_roads 89 = .ok (.iload 5, 2) := by decide +kernel
theorem dX9_roads_91 : decode cX9_roads 91 = .ok (.invokevirtual 418, 3) := by decide +kernel
theorem dX9_roads_94 : decode cX9_roads 94 = .ok (.aload_n 0, 1) := by decide +kernel
theorem dX9_roads_95 : decode cX9_roads 95 = .ok (.iload_n 1, 1) := by decide +kernel
theorem dX9_roads_96 : decode cX9_roads 96 = .ok (.iload 5, 2) := by decide +kernel
theorem dX9_roads_98 : decode cX9_roads 98 = .ok (.iconst 1, 1) := by decide +kernel
theorem dX9_roads_99 : decode cX9_roads 99 = .ok (.iadd, 1) := by decide +kernel
theorem dX9_roads_100 : decode cX9_roads 100 = .ok (.invokevirtual 418, 3) := by decide +kernel
theorem dX9_roads_103 : decode cX9_roads 103 = .ok (.aload_n 0, 1) := by decide +kernel
theorem dX9_roads_104 : decode cX9_roads 104 = .ok (.iload_n 1, 1) := by decide +kernel
theorem dX9_roads_105 : decode cX9_roads 105 = .ok (.iload 5, 2) := by decide +kernel
theorem dX9_roads_107 : decode cX9_roads 107 = .ok (.iconst 2, 1) := by decide +kernel
theorem dX9_roads_108 : decode cX9_roads 108 = .ok (.iadd, 1) := by decide +kernel
theorem dX9_roads_109 : decode cX9_roads 109 = .ok (.invokevirtual 418, 3) := by decide +kernel
theorem dX9_roads_112 : decode cX9_roads 112 = .ok (.aload_n 0, 1) := by decide +kernel
theorem dX9_roads_113 : decode cX9_roads 113 = .ok (.iload_n 1, 1) := by decide +kernel
theorem dX9_roads_114 : decode cX9_roads 114 = .ok (.iload 5, 2) := by decide +kernel
theorem dX9_roads_116 : decode cX9_roads 116 = .ok (.iconst 3, 1) := by decide +kernel
theorem dX9_roads_117 : decode cX9_roads 117 = .ok (.iadd, 1) := by decide +kernel
theorem dX9_roads_118 : decode cX9_roads 118 = .ok (.invokevirtual 418, 3) := by decide +kernel
theorem dX9_roads_121 : decode cX9_roads 121 = .ok (.invokevirtual 220, 3) := by decide +kernel
theorem dX9_roads_124 : decode cX9_roads 124 = .ok (.ifCond .eq 52, 3) := by decide +kernel
theorem dX9_roads_127 : decode cX9_roads 127 = .ok (.aload_n 0, 1) := by decide +kernel
theorem dX9_roads_128 : decode cX9_roads 128 = .ok (.aload_n 0, 1) := by decide +kernel
theorem dX9_roads_129 : decode cX9_roads 129 = .ok (.iload_n 1, 1) := by decide +kernel
theorem dX9_roads_130 : decode cX9_roads 130 = .ok (.iload 5, 2) := by decide +kernel
theorem dX9_roads_132 : decode cX9_roads 132 = .ok (.invokevirtual 418, 3) := by decide +kernel
theorem dX9_roads_135 : decode cX9_roads 135 = .ok (.aload_n 0, 1) := by decide +kernel
theorem dX9_roads_136 : decode cX9_roads 136 = .ok (.iload_n 1, 1) := by decide +kernel
theorem dX9_roads_137 : decode cX9_roads 137 = .ok (.iload 5, 2) := by decide +kernel
theorem dX9_roads_139 : decode cX9_roads 139 = .ok (.iconst 1, 1) := by decide +kernel
theorem dX9_roads_140 : decode cX9_roads 140 = .ok (.iadd, 1) := by decide +kernel
theorem dX9_roads_141 : decode cX9_roads 141 = .ok (.invokevirtual 418, 3) := by decide +kernel
theorem dX9_roads_144 : decode cX9_roads 144 = .ok (.aload_n 0, 1) := by decide +kernel
theorem dX9_roads_145 : decode cX9_roads 145 = .ok (.iload_n 1, 1) := by decide +kernel
theorem dX9_roads_146 : decode cX9_roads 146 = .ok (.iload 5, 2) := by decide +kernel
theorem dX9_roads_148 : decode cX9_roads 148 = .ok (.iconst 2, 1) := by decide +kernel
theorem dX9_roads_149 : decode cX9_roads 149 = .ok (.iadd, 1) := by decide +kernel
theorem dX9_roads_150 : decode cX9_roads 150 = .ok (.invokevirtual 418, 3) := by decide +kernel
theorem dX9_roads_153 : decode cX9_roads 153 = .ok (.aload_n 0, 1) := by decide +kernel
theorem dX9_roads_154 : decode cX9_roads 154 = .ok (.iload_n 1, 1) := by decide +kernel
theorem dX9_roads_155 : decode cX9_roads 155 = .ok (.iload 5, 2) := by decide +kernel
theorem dX9_roads_157 : decode cX9_roads 157 = .ok (.iconst 3, 1) := by decide +kernel
theorem dX9_roads_158 : decode cX9_roads 158 = .ok (.iadd, 1) := by decide +kernel
theorem dX9_roads_159 : decode cX9_roads 159 = .ok (.invokevirtual 418, 3) := by decide +kernel
theorem dX9_roads_162 : decode cX9_roads 162 = .ok (.invokevirtual 224, 3) := by decide +kernel
theorem dX9_roads_165 : decode cX9_roads 165 = .ok (.istore 6, 2) := by decide +kernel
theorem dX9_roads_167 : decode cX9_roads 167 = .ok (.iinc 4 1, 3) := by decide +kernel
theorem dX9_roads_170 : decode cX9_roads 170 = .ok (.iinc 5 4, 3) := by decide +kernel
theorem dX9_roads_173 : decode cX9_roads 173 = .ok (.goto (-120), 3) := by decide +kernel
theorem dX9_roads_176 : decode cX9_roads 176 = .ok (.iload 4, 2) := by decide +kernel
theorem dX9_roads_178 : decode cX9_roads 178 = .ok (.ireturn, 1) := by decide +kernel
theorem dX9_count_0 : decode cX9_count 0 = .ok (.iload_n 1, 1) := by decide +kernel
theorem dX9_count_1 : decode cX9_count 1 = .ok (.tableswitch 78 0 6 #[43, 48, 53, 58, 63, 68, 73], 43) := by decide +kernel
theorem dX9_count_44 : decode cX9_count 44 = .ok (.aload_n 0, 1) := by decide +kernel
theorem dX9_count_45 : decode cX9_count 45 = .ok (.getfield 7, 3) := by decide +kernel
theorem dX9_count_48 : decode cX9_count 48 = .ok (.ireturn, 1) := by decide +kernel
theorem dX9_count_49 : decode cX9_count 49 = .ok (.aload_n 0, 1) := by decide +kernel
theorem dX9_count_50 : decode cX9_count 50 = .ok (.getfield 13, 3) := by decide +kernel
theorem dX9_count_53 : decode cX9_count 53 = .ok (.ireturn, 1) := by decide +kernel
theorem dX9_count_54 : decode cX9_count 54 = .ok (.aload_n 0, 1) := by decide +kernel
theorem dX9_count_55 : decode cX9_count 55 = .ok (.getfield 77, 3) := by decide +kernel
theorem dX9_count_58 : decode cX9_count 58 = .ok (.ireturn, 1) := by decide +kernel
theorem dX9_count_59 : decode cX9_count 59 = .ok (.aload_n 0, 1) := by decide +kernel
theorem dX9_count_60 : decode cX9_count 60 = .ok (.getfield 83, 3) := by decide +kernel
theorem dX9_count_63 : decode cX9_count 63 = .ok (.ireturn, 1) := by decide +kernel
theorem dX9_count_64 : decode cX9_count 64 = .ok (.aload_n 0, 1) := by decide +kernel
theorem dX9_count_65 : decode cX9_count 65 = .ok (.getfield 62, 3) := by decide +kernel
theorem dX9_count_68 : decode cX9_count 68 = .ok (.ireturn, 1) := by decide +kernel
theorem dX9_count_69 : decode cX9_count 69 = .ok (.aload_n 0, 1) := by decide +kernel
theorem dX9_count_70 : decode cX9_count 70 = .ok (.getfield 184, 3) := by decide +kernel
theorem dX9_count_73 : decode cX9_count 73 = .ok (.ireturn, 1) := by decide +kernel
theorem dX9_count_74 : decode cX9_count 74 = .ok (.aload_n 0, 1) := by decide +kernel
theorem dX9_count_75 : decode cX9_count 75 = .ok (.getfield 187, 3) := by decide +kernel
theorem dX9_count_78 : decode cX9_count 78 = .ok (.ireturn, 1) := by decide +kernel
theorem dX9_count_79 : decode cX9_count 79 = .ok (.iconst (-1), 1) := by decide +kernel
theorem dX9_count_80 : decode cX9_count 80 = .ok (.ireturn, 1) := by decide +kernel
