theorem dX5_init_0 : decode cX5_init 0 = .ok (.aload_n 0, 1) := by decide +kernel
theorem dX5_init_1 : decode cX5_init 1 = .ok (.invokespecial 1, 3) := by decide +kernel
theorem dX5_init_4 : decode cX5_init 4 = .ok (.aload_n 0, 1) := by decide +kernel
theorem dX5_init_5 : decode cX5_init 5 = .ok (.iconst (-1), 1) := by decide +kernel
theorem dX5_init_6 : decode cX5_init 6 = .ok (.putfield 9, 3) := by decide +kernel
theorem dX5_init_9 : decode cX5_init 9 = .ok (.aload_n 0, 1) := by decide +kernel
theorem dX5_init_10 : decode cX5_init 10 = .ok (.iconst (-1), 1) := by decide +kernel
theorem dX5_init_11 : decode cX5_init 11 = .ok (.putfield 13, 3) := by decide +kernel
theorem dX5_init_14 : decode cX5_init 14 = .ok (.aload_n 0, 1) := by decide +kernel
theorem dX5_init_15 : decode cX5_init 15 = .ok (.bipush 60, 2) := by decide +kernel
theorem dX5_init_17 : decode cX5_init 17 = .ok (.newarray .long, 2) := by decide +kernel
theorem dX5_init_19 : decode cX5_init 19 = .ok (.putfield 16, 3) := by decide +kernel
theorem dX5_init_22 : decode cX5_init 22 = .ok (.return_, 1) := by decide +kernel
theorem dX5_holdsNothing_0 : decode cX5_holdsNothing 0 = .ok (.aload_n 0, 1) := by decide +kernel
theorem dX5_holdsNothing_1 : decode cX5_holdsNothing 1 = .ok (.getfield 9, 3) := by decide +kernel
theorem dX5_holdsNothing_4 : decode cX5_holdsNothing 4 = .ok (.iconst (-1), 1) := by decide +kernel
theorem dX5_holdsNothing_5 : decode cX5_holdsNothing 5 = .ok (.if_icmp .ne 7, 3) := by decide +kernel
theorem dX5_holdsNothing_8 : decode cX5_holdsNothing 8 = .ok (.iconst 1, 1) := by decide +kernel
theorem dX5_holdsNothing_9 : decode cX5_holdsNothing 9 = .ok (.goto 4, 3) := by decide +kernel
theorem dX5_holdsNothing_12 : decode cX5_holdsNothing 12 = .ok (.iconst 0, 1) := by decide +kernel
theorem dX5_holdsNothing_13 : decode cX5_holdsNothing 13 = .ok (.ireturn, 1) := by decide +kernel
theorem dX5_holdsRow_0 : decode cX5_holdsRow 0 = .ok (.aload_n 0, 1) := by decide +kernel
theorem dX5_holdsRow_1 : decode cX5_holdsRow 1 = .ok (.getfield 9, 3) := by decide +kernel
theorem dX5_holdsRow_4 : decode cX5_holdsRow 4 = .ok (.ifCond .lt 15, 3) := by decide +kernel
theorem dX5_holdsRow_7 : decode cX5_holdsRow 7 = .ok (.aload_n 0, 1) := by decide +kernel
theorem dX5_holdsRow_8 : decode cX5_holdsRow 8 = .ok (.getfield 9, 3) := by decide +kernel
theorem dX5_holdsRow_11 : decode cX5_holdsRow 11 = .ok (.iconst 4, 1) := by decide +kernel
theorem dX5_holdsRow_12 : decode cX5_holdsRow 12 = .ok (.if_icmp .gt 7, 3) := by decide +kernel
theorem dX5_holdsRow_15 : decode cX5_holdsRow 15 = .ok (.iconst 1, 1) := by decide +kernel
theorem dX5_holdsRow_16 : decode cX5_holdsRow 16 = .ok (.goto 4, 3) := by decide +kernel
theorem dX5_holdsRow_19 : decode cX5_holdsRow 19 = .ok (.iconst 0, 1) := by decide +kernel
theorem dX5_holdsRow_20 : decode cX5_holdsRow 20 = .ok (.ireturn, 1) := by decide +kernel
set_option maxRecDepth 20000 in
theorem ggX5_holdsRowOf_X5_holdsRow : GoodIn wsX5_holdsRowOf wsX5_holdsRow := goodIn_r _ [6, 1, 7, 8, 9, 10] rfl (by decide +kernel)
set_option maxRecDepth 20000 in
theorem gX5_holdsRowOf_X5_holdsRow : GoodIn wsX5_holdsRowOf (wsV RX5 20 RX5 yX5_holdsRow wsX5_holdsRow) := goodIn_app (goodIn_of _ (by decide +kernel)) ggX5_holdsRowOf_X5_holdsRow
theorem dX5_holdsRowOf_0 : decode cX5_holdsRowOf 0 = .ok (.aload_n 0, 1) := by decide +kernel
theorem dX5_holdsRowOf_1 : decode cX5_holdsRowOf 1 = .ok (.invokevirtual 20, 3) := by decide +kernel
theorem dX5_holdsRowOf_4 : decode cX5_holdsRowOf 4 = .ok (.ifCond .eq 15, 3) := by decide +kernel
theorem dX5_holdsRowOf_7 : decode cX5_holdsRowOf 7 = .ok (.aload_n 0, 1) := by decide +kernel
theorem dX5_holdsRowOf_8 : decode cX5_holdsRowOf 8 = .ok (.getfield 9, 3) := by decide +kernel
theorem dX5_holdsRowOf_11 : decode cX5_holdsRowOf 11 = .ok (.iload_n 1, 1) := by decide +kernel
theorem dX5_holdsRowOf_12 : decode cX5_holdsRowOf 12 = .ok (.if_icmp .ne 7, 3) := by decide +kernel
theorem dX5_holdsRowOf_15 : decode cX5_holdsRowOf 15 = .ok (.iconst 1, 1) := by decide +kernel
theorem dX5_holdsRowOf_16 : decode cX5_holdsRowOf 16 = .ok (.goto 4, 3) := by decide +kernel
theorem dX5_holdsRowOf_19 : decode cX5_holdsRowOf 19 = .ok (.iconst 0, 1) := by decide +kernel
theorem dX5_holdsRowOf_20 : decode cX5_holdsRowOf 20 = .ok (.ireturn, 1) := by decide +kernel
set_option maxRecDepth 20000 in
theorem ggX5_holdsCells_X5_holdsRow : GoodIn wsX5_holdsCells wsX5_holdsRow := goodIn_r _ [6, 7, 8, 9, 10, 11] rfl (by decide +kernel)
set_option maxRecDepth 20000 in
theorem gX5_holdsCells_X5_holdsRow : GoodIn wsX5_holdsCells (wsV RX5 20 RX5 yX5_holdsRow wsX5_holdsRow) := goodIn_app (goodIn_of _ (by decide +kernel)) ggX5_holdsCells_X5_holdsRow
theorem dX5_holdsCells_0 : decode cX5_holdsCells 0 = .ok (.aload_n 0, 1) := by decide +kernel
theorem dX5_holdsCells_1 : decode cX5_holdsCells 1 = .ok (.invokevirtual 20, 3) := by decide +kernel
theorem dX5_holdsCells_4 : decode cX5_holdsCells 4 = .ok (.ifCond .eq 33, 3) := by decide +kernel
theorem dX5_holdsCells_7 : decode cX5_holdsCells 7 = .ok (.iload_n 1, 1) := by decide +kernel
theorem dX5_holdsCells_8 : decode cX5_holdsCells 8 = .ok (.ifCond .lt 29, 3) := by decide +kernel
theorem dX5_holdsCells_11 : decode cX5_holdsCells 11 = .ok (.iload_n 2, 1) := by decide +kernel
theorem dX5_holdsCells_12 : decode cX5_holdsCells 12 = .ok (.ifCond .lt 25, 3) := by decide +kernel
theorem dX5_holdsCells_15 : decode cX5_holdsCells 15 = .ok (.iload_n 2, 1) := by decide +kernel
theorem dX5_holdsCells_16 : decode cX5_holdsCells 16 = .ok (.aload_n 0, 1) := by decide +kernel
theorem dX5_holdsCells_17 : decode cX5_holdsCells 17 = .ok (.getfield 24, 3) := by decide +kernel
theorem dX5_holdsCells_20 : decode cX5_holdsCells 20 = .ok (.if_icmp .gt 17, 3) := by decide +kernel
theorem dX5_holdsCells_23 : decode cX5_holdsCells 23 = .ok (.iload_n 1, 1) := by decide +kernel
theorem dX5_holdsCells_24 : decode cX5_holdsCells 24 = .ok (.aload_n 0, 1) := by decide +kernel
theorem dX5_holdsCells_25 : decode cX5_holdsCells 25 = .ok (.getfield 24, 3) := by decide +kernel
theorem dX5_holdsCells_28 : decode cX5_holdsCells 28 = .ok (.iload_n 2, 1) := by decide +kernel
theorem dX5_holdsCells_29 : decode cX5_holdsCells 29 = .ok (.isub, 1) := by decide +kernel
theorem dX5_holdsCells_30 : decode cX5_holdsCells 30 = .ok (.if_icmp .gt 7, 3) := by decide +kernel
theorem dX5_holdsCells_33 : decode cX5_holdsCells 33 = .ok (.iconst 1, 1) := by decide +kernel
theorem dX5_holdsCells_34 : decode cX5_holdsCells 34 = .ok (.goto 4, 3) := by decide +kernel
theorem dX5_holdsCells_37 : decode cX5_holdsCells 37 = .ok (.iconst 0, 1) := by decide +kernel
theorem dX5_holdsCells_38 : decode cX5_holdsCells 38 = .ok (.ireturn, 1) := by decide +kernel
theorem dX5_takeBody_0 : decode cX5_takeBody 0 = .ok (.aload_n 0, 1) := by decide +kernel
theorem dX5_takeBody_1 : decode cX5_takeBody 1 = .ok (.iload_n 1, 1) := by decide +kernel
theorem dX5_takeBody_2 : decode cX5_takeBody 2 = .ok (.ifCond .ge 7, 3) := by decide +kernel
theorem dX5_takeBody_5 : decode cX5_takeBody 5 = .ok (.iconst (-1), 1) := by decide +kernel
theorem dX5_takeBody_6 : decode cX5_takeBody 6 = .ok (.goto 4, 3) := by decide +kernel
theorem dX5_takeBody_9 : decode cX5_takeBody 9 = .ok (.iconst 5, 1) := by decide +kernel
theorem dX5_takeBody_10 : decode cX5_takeBody 10 = .ok (.putfield 9, 3) := by decide +kernel
theorem dX5_takeBody_13 : decode cX5_takeBody 13 = .ok (.aload_n 0, 1) := by decide +kernel
theorem dX5_takeBody_14 : decode cX5_takeBody 14 = .ok (.iload_n 1, 1) := by decide +kernel
theorem dX5_takeBody_15 : decode cX5_takeBody 15 = .ok (.putfield 13, 3) := by decide +kernel
theorem dX5_takeBody_18 : decode cX5_takeBody 18 = .ok (.return_, 1) := by decide +kernel
set_option maxRecDepth 20000 in
theorem ggX5_takeRow_J7_fill_d0a16 : GoodIn wsX5_takeRow wsJ7_fill_d0a16 := goodIn_r _ [15] rfl (by decide +kernel)
set_option maxRecDepth 20000 in
theorem gX5_takeRow_J7_fill_d0a16 : GoodIn wsX5_takeRow (va_wsS RX5 36 yJ7_fill_d0a16 wsJ7_fill_d0a16) := goodIn_app (goodIn_of _ (by decide +kernel)) ggX5_takeRow_J7_fill_d0a16
theorem dX5_takeRow_0 : decode cX5_takeRow 0 = .ok (.aload_n 0, 1) := by decide +kernel
theorem dX5_takeRow_1 : decode cX5_takeRow 1 = .ok (.iload_n 1, 1) := by decide +kernel
theorem dX5_takeRow_2 : decode cX5_takeRow 2 = .ok (.putfield 9, 3) := by decide +kernel
theorem dX5_takeRow_5 : decode cX5_takeRow 5 = .ok (.aload_n 0, 1) := by decide +kernel
theorem dX5_takeRow_6 : decode cX5_takeRow 6 = .ok (.iconst (-1), 1) := by decide +kernel
theorem dX5_takeRow_7 : decode cX5_takeRow 7 = .ok (.putfield 13, 3) := by decide +kernel
theorem dX5_takeRow_10 : decode cX5_takeRow 10 = .ok (.aload_n 0, 1) := by decide +kernel
theorem dX5_takeRow_11 : decode cX5_takeRow 11 = .ok (.iconst 0, 1) := by decide +kernel
theorem dX5_takeRow_12 : decode cX5_takeRow 12 = .ok (.bipush 60, 2) := by decide +kernel
theorem dX5_takeRow_14 : decode cX5_takeRow 14 = .ok (.iload_n 2, 1) := by decide +kernel
theorem dX5_takeRow_15 : decode cX5_takeRow 15 = .ok (.invokestatic 27, 3) := by decide +kernel
theorem dX5_takeRow_18 : decode cX5_takeRow 18 = .ok (.invokestatic 33, 3) := by decide +kernel
theorem dX5_takeRow_21 : decode cX5_takeRow 21 = .ok (.putfield 24, 3) := by decide +kernel
theorem dX5_takeRow_24 : decode cX5_takeRow 24 = .ok (.aload_n 0, 1) := by decide +kernel
theorem dX5_takeRow_25 : decode cX5_takeRow 25 = .ok (.getfield 16, 3) := by decide +kernel
theorem dX5_takeRow_28 : decode cX5_takeRow 28 = .ok (.lconst 0, 1) := by decide +kernel
theorem dX5_takeRow_29 : decode cX5_takeRow 29 = .ok (.invokestatic 36, 3) := by decide +kernel
theorem dX5_takeRow_32 : decode cX5_takeRow 32 = .ok (.return_, 1) := by decide +kernel
set_option maxRecDepth 20000 in
theorem ggX5_cell_X5_holdsCells : GoodIn wsX5_cell wsX5_holdsCells := goodIn_r _ [6, 7, 8, 9, 10, 5, 11, 12, 13, 14, 15, 16] rfl (by decide +kernel)
set_option maxRecDepth 20000 in
theorem gX5_cell_X5_holdsCells : GoodIn wsX5_cell (wsV RX5 42 RX5 yX5_holdsCells wsX5_holdsCells) := goodIn_app (goodIn_of _ (by decide +kernel)) ggX5_cell_X5_holdsCells
theorem dX5_cell_0 : decode cX5_cell 0 = .ok (.aload_n 0, 1) := by decide +kernel
theorem dX5_cell_1 : decode cX5_cell 1 = .ok (.iload_n 1, 1) := by decide +kernel
theorem dX5_cell_2 : decode cX5_cell 2 = .ok (.iconst 1, 1) := by decide +kernel
theorem dX5_cell_3 : decode cX5_cell 3 = .ok (.invokevirtual 42, 3) := by decide +kernel
theorem dX5_cell_6 : decode cX5_cell 6 = .ok (.ifCond .eq 12, 3) := by decide +kernel
theorem dX5_cell_9 : decode cX5_cell 9 = .ok (.aload_n 0, 1) := by decide +kernel
theorem dX5_cell_10 : decode cX5_cell 10 = .ok (.getfield 16, 3) := by decide +kernel
theorem dX5_cell_13 : decode cX5_cell 13 = .ok (.iload_n 1, 1) := by decide +kernel
theorem dX5_cell_14 : decode cX5_cell 14 = .ok (.laload, 1) := by decide +kernel
theorem dX5_cell_15 : decode cX5_cell 15 = .ok (.goto 4, 3) := by decide +kernel
theorem dX5_cell_18 : decode cX5_cell 18 = .ok (.lconst 0, 1) := by decide +kernel
theorem dX5_cell_19 : decode cX5_cell 19 = .ok (.lreturn, 1) := by decide +kernel
set_option maxRecDepth 20000 in
theorem ggX5_store_X5_holdsCells : GoodIn wsX5_store wsX5_holdsCells := goodIn_r _ [6, 7, 8, 9, 10, 5, 11, 12, 17, 18, 19, 20] rfl (by decide +kernel)
set_option maxRecDepth 20000 in
theorem gX5_store_X5_holdsCells : GoodIn wsX5_store (wsV RX5 42 RX5 yX5_holdsCells wsX5_holdsCells) := goodIn_app (goodIn_of _ (by decide +kernel)) ggX5_store_X5_holdsCells
set_option maxRecDepth 20000 in
theorem ggX5_store_X5_lowestBits : GoodIn wsX5_store wsX5_lowestBits := goodIn_r _ [16, 12, 17, 18, 19, 20] rfl (by decide +kernel)
set_option maxRecDepth 20000 in
theorem gX5_store_X5_lowestBits : GoodIn wsX5_store (wsV RX5 46 RX5 yX5_lowestBits wsX5_lowestBits) := goodIn_app (goodIn_of _ (by decide +kernel)) ggX5_store_X5_lowestBits
theorem dX5_store_0 : decode cX5_store 0 = .ok (.aload_n 0, 1) := by decide +kernel
theorem dX5_store_1 : decode cX5_store 1 = .ok (.iload_n 1, 1) := by decide +kernel
theorem dX5_store_2 : decode cX5_store 2 = .ok (.iconst 1, 1) := by decide +kernel
theorem dX5_store_3 : decode cX5_store 3 = .ok (.invokevirtual 42, 3) := by decide +kernel
theorem dX5_store_6 : decode cX5_store 6 = .ok (.ifCond .eq 14, 3) := by decide +kernel
theorem dX5_store_9 : decode cX5_store 9 = .ok (.aload_n 0, 1) := by decide +kernel
theorem dX5_store_10 : decode cX5_store 10 = .ok (.getfield 16, 3) := by decide +kernel
theorem dX5_store_13 : decode cX5_store 13 = .ok (.iload_n 1, 1) := by decide +kernel
theorem dX5_store_14 : decode cX5_store 14 = .ok (.aload_n 0, 1) := by decide +kernel
theorem dX5_store_15 : decode cX5_store 15 = .ok (.lload_n 2, 1) := by decide +kernel
theorem dX5_store_16 : decode cX5_store 16 = .ok (.invokevirtual 46, 3) := by decide +kernel
theorem dX5_store_19 : decode cX5_store 19 = .ok (.lastore, 1) := by decide +kernel
theorem dX5_store_20 : decode cX5_store 20 = .ok (.return_, 1) := by decide +kernel
theorem dX5_lowestBits_0 : decode cX5_lowestBits 0 = .ok (.aload_n 0, 1) := by decide +kernel
theorem dX5_lowestBits_1 : decode cX5_lowestBits 1 = .ok (.getfield 9, 3) := by decide +kernel
theorem dX5_lowestBits_4 : decode cX5_lowestBits 4 = .ok (.tableswitch 62 0 4 #[36, 41, 46, 62, 50], 36) := by decide +kernel
theorem dX5_lowestBits_40 : decode cX5_lowestBits 40 = .ok (.lload_n 1, 1) := by decide +kernel
theorem dX5_lowestBits_41 : decode cX5_lowestBits 41 = .ok (.l2i, 1) := by decide +kernel
theorem dX5_lowestBits_42 : decode cX5_lowestBits 42 = .ok (.i2b, 1) := by decide +kernel
theorem dX5_lowestBits_43 : decode cX5_lowestBits 43 = .ok (.i2l, 1) := by decide +kernel
theorem dX5_lowestBits_44 : decode cX5_lowestBits 44 = .ok (.lreturn, 1) := by decide +kernel
theorem dX5_lowestBits_45 : decode cX5_lowestBits 45 = .ok (.lload_n 1, 1) := by decide +kernel
theorem dX5_lowestBits_46 : decode cX5_lowestBits 46 = .ok (.l2i, 1) := by decide +kernel
theorem dX5_lowestBits_47 : decode cX5_lowestBits 47 = .ok (.i2s, 1) := by decide +kernel
theorem dX5_lowestBits_48 : decode cX5_lowestBits 48 = .ok (.i2l, 1) := by decide +kernel
theorem dX5_lowestBits_49 : decode cX5_lowestBits 49 = .ok (.lreturn, 1) := by decide +kernel
theorem dX5_lowestBits_50 : decode cX5_lowestBits 50 = .ok (.lload_n 1, 1) := by decide +kernel
theorem dX5_lowestBits_51 : decode cX5_lowestBits 51 = .ok (.l2i, 1) := by decide +kernel
theorem dX5_lowestBits_52 : decode cX5_lowestBits 52 = .ok (.i2l, 1) := by decide +kernel
theorem dX5_lowestBits_53 : decode cX5_lowestBits 53 = .ok (.lreturn, 1) := by decide +kernel
theorem dX5_lowestBits_54 : decode cX5_lowestBits 54 = .ok (.lload_n 1, 1) := by decide +kernel
theorem dX5_lowestBits_55 : decode cX5_lowestBits 55 = .ok (.lconst 0, 1) := by decide +kernel
theorem dX5_lowestBits_56 : decode cX5_lowestBits 56 = .ok (.lcmp, 1) := by decide +kernel
theorem dX5_lowestBits_57 : decode cX5_lowestBits 57 = .ok (.ifCond .eq 7, 3) := by decide +kernel
theorem dX5_lowestBits_60 : decode cX5_lowestBits 60 = .ok (.lconst 1, 1) := by decide +kernel
theorem dX5_lowestBits_61 : decode cX5_lowestBits 61 = .ok (.goto 4, 3) := by decide +kernel
theorem dX5_lowestBits_64 : decode cX5_lowestBits 64 = .ok (.lconst 0, 1) := by decide +kernel
theorem dX5_lowestBits_65 : decode cX5_lowestBits 65 = .ok (.lreturn, 1) := by decide +kernel
theorem dX5_lowestBits_66 : decode cX5_lowestBits 66 = .ok (.lload_n 1, 1) := by decide +kernel
theorem dX5_lowestBits_67 : decode cX5_lowestBits 67 = .ok (.lreturn, 1) := by decide +kernel
