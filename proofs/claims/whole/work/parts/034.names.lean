theorem dX4_init_0 : decode cX4_init 0 = .ok (.aload_n 0, 1) := by decide +kernel
theorem dX4_init_1 : decode cX4_init 1 = .ok (.invokespecial 3, 3) := by decide +kernel
theorem dX4_init_4 : decode cX4_init 4 = .ok (.return_, 1) := by decide +kernel
set_option maxRecDepth 20000 in
theorem ggX4_read_X6_clear : GoodIn wsX4_read wsX6_clear := goodIn_r _ [14, 15, 16, 149, 150, 151, 152] rfl (by decide +kernel)
set_option maxRecDepth 20000 in
theorem gX4_read_X6_clear : GoodIn wsX4_read (wsV RX4 35 RX6 yX6_clear wsX6_clear) := goodIn_app (goodIn_of _ (by decide +kernel)) ggX4_read_X6_clear
set_option maxRecDepth 20000 in
theorem ggX4_read_X4_readLine : GoodIn wsX4_read wsX4_readLine := goodIn_r _ [21, 9, 22, 7, 23, 24, 25, 20, 26, 27, 28, 29, 30, 31, 32, 33, 8, 6, 1, 34, 35, 36, 37, 38, 39, 13, 40, 15, 41, 16, 42, 43, 44, 45, 46, 47, 48, 49, 50, 51, 52, 53, 54, 55, 56, 57, 58, 59, 60, 61, 62, 63, 64, 65, 66, 67, 68, 69, 70, 71, 72, 4, 73, 74, 3, 5, 75, 76, 77, 78, 79, 80, 81, 82, 83, 84, 85, 86, 87, 88, 89, 90, 91, 92, 93, 94, 95, 96, 97, 98, 99, 100, 101, 102, 103, 104, 105, 106, 107, 108, 109, 110, 111, 112, 113, 114, 115, 116, 117, 118, 119, 120, 121, 122, 123, 124, 125, 126, 127, 128, 129, 130, 131, 132, 133, 134, 135, 136, 137, 138, 139, 140, 141, 142, 143, 144, 145, 146, 147, 148, 149, 150, 151, 152] rfl (by decide +kernel)
set_option maxRecDepth 20000 in
theorem gX4_read_X4_readLine : GoodIn wsX4_read (wsV RX4 40 RX4 yX4_readLine wsX4_readLine) := goodIn_app (goodIn_of _ (by decide +kernel)) ggX4_read_X4_readLine
set_option maxRecDepth 20000 in
theorem ggX4_read_X4_next : GoodIn wsX4_read wsX4_next := goodIn_r _ [33, 8, 7, 6, 1, 144, 145, 146, 147, 148] rfl (by decide +kernel)
set_option maxRecDepth 20000 in
theorem gX4_read_X4_next : GoodIn wsX4_read (wsV RX4 43 RX4 yX4_next wsX4_next) := goodIn_app (goodIn_of _ (by decide +kernel)) ggX4_read_X4_next
set_option maxRecDepth 20000 in
theorem ggX4_read_X4_fail : GoodIn wsX4_read wsX4_fail := goodIn_r _ [139, 8, 7, 144, 145, 146, 147, 148] rfl (by decide +kernel)
set_option maxRecDepth 20000 in
theorem gX4_read_X4_fail : GoodIn wsX4_read (wsV RX4 47 RX4 yX4_fail wsX4_fail) := goodIn_app (goodIn_of _ (by decide +kernel)) ggX4_read_X4_fail
theorem dX4_read_0 : decode cX4_read 0 = .ok (.aload_n 0, 1) := by decide +kernel
theorem dX4_read_1 : decode cX4_read 1 = .ok (.aload_n 1, 1) := by decide +kernel
theorem dX4_read_2 : decode cX4_read 2 = .ok (.putfield 9, 3) := by decide +kernel
theorem dX4_read_5 : decode cX4_read 5 = .ok (.aload_n 0, 1) := by decide +kernel
theorem dX4_read_6 : decode cX4_read 6 = .ok (.iload_n 2, 1) := by decide +kernel
theorem dX4_read_7 : decode cX4_read 7 = .ok (.aload_n 1, 1) := by decide +kernel
theorem dX4_read_8 : decode cX4_read 8 = .ok (.arraylength, 1) := by decide +kernel
theorem dX4_read_9 : decode cX4_read 9 = .ok (.invokestatic 15, 3) := by decide +kernel
theorem dX4_read_12 : decode cX4_read 12 = .ok (.putfield 21, 3) := by decide +kernel
theorem dX4_read_15 : decode cX4_read 15 = .ok (.aload_n 0, 1) := by decide +kernel
theorem dX4_read_16 : decode cX4_read 16 = .ok (.iconst 0, 1) := by decide +kernel
theorem dX4_read_17 : decode cX4_read 17 = .ok (.putfield 25, 3) := by decide +kernel
theorem dX4_read_20 : decode cX4_read 20 = .ok (.aload_n 0, 1) := by decide +kernel
theorem dX4_read_21 : decode cX4_read 21 = .ok (.iconst (-1), 1) := by decide +kernel
theorem dX4_read_22 : decode cX4_read 22 = .ok (.putfield 28, 3) := by decide +kernel
theorem dX4_read_25 : decode cX4_read 25 = .ok (.aload_n 0, 1) := by decide +kernel
theorem dX4_read_26 : decode cX4_read 26 = .ok (.aload_n 3, 1) := by decide +kernel
theorem dX4_read_27 : decode cX4_read 27 = .ok (.putfield 31, 3) := by decide +kernel
theorem dX4_read_30 : decode cX4_read 30 = .ok (.aload_n 0, 1) := by decide +kernel
theorem dX4_read_31 : decode cX4_read 31 = .ok (.getfield 31, 3) := by decide +kernel
theorem dX4_read_34 : decode cX4_read 34 = .ok (.invokevirtual 35, 3) := by decide +kernel
theorem dX4_read_37 : decode cX4_read 37 = .ok (.aload_n 0, 1) := by decide +kernel
theorem dX4_read_38 : decode cX4_read 38 = .ok (.invokevirtual 40, 3) := by decide +kernel
theorem dX4_read_41 : decode cX4_read 41 = .ok (.iconst 0, 1) := by decide +kernel
theorem dX4_read_42 : decode cX4_read 42 = .ok (.istore 4, 2) := by decide +kernel
theorem dX4_read_44 : decode cX4_read 44 = .ok (.iload 4, 2) := by decide +kernel
theorem dX4_read_46 : decode cX4_read 46 = .ok (.bipush 120, 2) := by decide +kernel
theorem dX4_read_48 : decode cX4_read 48 = .ok (.if_icmp .ge 32, 3) := by decide +kernel
theorem dX4_read_51 : decode cX4_read 51 = .ok (.aload_n 0, 1) := by decide +kernel
theorem dX4_read_52 : decode cX4_read 52 = .ok (.invokevirtual 43, 3) := by decide +kernel
theorem dX4_read_55 : decode cX4_read 55 = .ok (.bipush 59, 2) := by decide +kernel
theorem dX4_read_57 : decode cX4_read 57 = .ok (.if_icmp .ne 23, 3) := by decide +kernel
theorem dX4_read_60 : decode cX4_read 60 = .ok (.aload_n 0, 1) := by decide +kernel
theorem dX4_read_61 : decode cX4_read 61 = .ok (.dup, 1) := by decide +kernel
theorem dX4_read_62 : decode cX4_read 62 = .ok (.getfield 25, 3) := by decide +kernel
theorem dX4_read_65 : decode cX4_read 65 = .ok (.iconst 1, 1) := by decide +kernel
theorem dX4_read_66 : decode cX4_read 66 = .ok (.iadd, 1) := by decide +kernel
theorem dX4_read_67 : decode cX4_read 67 = .ok (.putfield 25, 3) := by decide +kernel
theorem dX4_read_70 : decode cX4_read 70 = .ok (.aload_n 0, 1) := by decide +kernel
theorem dX4_read_71 : decode cX4_read 71 = .ok (.invokevirtual 40, 3) := by decide +kernel
theorem dX4_read_74 : decode cX4_read 74 = .ok (.iinc 4 1, 3) := by decide +kernel
theorem dX4_read_77 : decode cX4_read 77 = .ok (.goto (-33), 3) := by decide +kernel
theorem dX4_read_80 : decode cX4_read 80 = .ok (.aload_n 0, 1) := by decide +kernel
theorem dX4_read_81 : decode cX4_read 81 = .ok (.getfield 25, 3) := by decide +kernel
theorem dX4_read_84 : decode cX4_read 84 = .ok (.aload_n 0, 1) := by decide +kernel
theorem dX4_read_85 : decode cX4_read 85 = .ok (.getfield 21, 3) := by decide +kernel
theorem dX4_read_88 : decode cX4_read 88 = .ok (.if_icmp .ge 7, 3) := by decide +kernel
theorem dX4_read_91 : decode cX4_read 91 = .ok (.aload_n 0, 1) := by decide +kernel
theorem dX4_read_92 : decode cX4_read 92 = .ok (.invokevirtual 47, 3) := by decide +kernel
theorem dX4_read_95 : decode cX4_read 95 = .ok (.aload_n 0, 1) := by decide +kernel
theorem dX4_read_96 : decode cX4_read 96 = .ok (.getfield 28, 3) := by decide +kernel
theorem dX4_read_99 : decode cX4_read 99 = .ok (.ireturn, 1) := by decide +kernel
set_option maxRecDepth 20000 in
theorem ggX4_readLine_X4_readJoined : GoodIn wsX4_readLine wsX4_readJoined := goodIn_r _ [8, 3, 1, 9, 10, 11, 7, 4, 5, 6, 12, 13, 14, 15, 16, 17, 18, 19, 20, 21, 22, 23, 24, 25, 26, 27, 28, 29, 30, 31, 32, 33, 34, 35, 36, 37, 38, 39, 40, 41, 42, 43, 44, 45, 46, 47, 48, 49, 50, 51, 52, 53, 54, 55, 56, 57, 58, 59, 60, 61, 62, 63, 64, 65, 66, 67, 68, 69, 70, 71, 72, 73, 74, 75, 76, 77, 78, 79, 80, 81, 82, 83, 84, 85, 86, 87, 88, 89, 90, 91, 92, 93, 94, 95, 96, 97, 98, 99, 100, 101, 102, 103, 104, 105, 106, 107, 108, 109, 110, 111, 112, 113, 114, 115, 116, 117, 118, 119, 120, 121, 122, 123, 124, 125, 126, 127, 128, 129, 130, 135, 136, 137, 138, 139, 140, 141, 142, 143] rfl (by decide +kernel)
set_option maxRecDepth 20000 in
theorem gX4_readLine_X4_readJoined : GoodIn wsX4_readLine (wsV RX4 50 RX4 yX4_readJoined wsX4_readJoined) := goodIn_app (goodIn_of _ (by decide +kernel)) ggX4_readLine_X4_readJoined
set_option maxRecDepth 20000 in
theorem ggX4_readLine_X4_next : GoodIn wsX4_readLine wsX4_next := goodIn_r _ [15, 16, 3, 17, 18, 135, 136, 137, 138, 139] rfl (by decide +kernel)
set_option maxRecDepth 20000 in
theorem gX4_readLine_X4_next : GoodIn wsX4_readLine (wsV RX4 43 RX4 yX4_next wsX4_next) := goodIn_app (goodIn_of _ (by decide +kernel)) ggX4_readLine_X4_next
set_option maxRecDepth 20000 in
theorem ggX4_readLine_X6_add : GoodIn wsX4_readLine wsX6_add := goodIn_r _ [26, 27, 28, 29, 140, 141, 142, 143] rfl (by decide +kernel)
set_option maxRecDepth 20000 in
theorem gX4_readLine_X6_add : GoodIn wsX4_readLine (wsV RX4 57 RX6 yX6_add wsX6_add) := goodIn_app (goodIn_of _ (by decide +kernel)) ggX4_readLine_X6_add
set_option maxRecDepth 20000 in
theorem ggX4_readLine_X6_leadOn : GoodIn wsX4_readLine wsX6_leadOn := goodIn_r _ [134, 27, 28, 140, 141, 142, 143] rfl (by decide +kernel)
set_option maxRecDepth 20000 in
theorem gX4_readLine_X6_leadOn : GoodIn wsX4_readLine (wsV RX4 61 RX6 yX6_leadOn wsX6_leadOn) := goodIn_app (goodIn_of _ (by decide +kernel)) ggX4_readLine_X6_leadOn
theorem dX4_readLine_0 : decode cX4_readLine 0 = .ok (.aload_n 0, 1) := by decide +kernel
theorem dX4_readLine_1 : decode cX4_readLine 1 = .ok (.iconst 0, 1) := by decide +kernel
theorem dX4_readLine_2 : decode cX4_readLine 2 = .ok (.iconst 0, 1) := by decide +kernel
theorem dX4_readLine_3 : decode cX4_readLine 3 = .ok (.invokevirtual 50, 3) := by decide +kernel
theorem dX4_readLine_6 : decode cX4_readLine 6 = .ok (.aload_n 0, 1) := by decide +kernel
theorem dX4_readLine_7 : decode cX4_readLine 7 = .ok (.getfield 31, 3) := by decide +kernel
theorem dX4_readLine_10 : decode cX4_readLine 10 = .ok (.getfield 54, 3) := by decide +kernel
theorem dX4_readLine_13 : decode cX4_readLine 13 = .ok (.istore_n 1, 1) := by decide +kernel
theorem dX4_readLine_14 : decode cX4_readLine 14 = .ok (.aload_n 0, 1) := by decide +kernel
theorem dX4_readLine_15 : decode cX4_readLine 15 = .ok (.invokevirtual 43, 3) := by decide +kernel
theorem dX4_readLine_18 : decode cX4_readLine 18 = .ok (.bipush 63, 2) := by decide +kernel
theorem dX4_readLine_20 : decode cX4_readLine 20 = .ok (.if_icmp .ne 7, 3) := by decide +kernel
theorem dX4_readLine_23 : decode cX4_readLine 23 = .ok (.iconst 1, 1) := by decide +kernel
theorem dX4_readLine_24 : decode cX4_readLine 24 = .ok (.goto 4, 3) := by decide +kernel
theorem dX4_readLine_27 : decode cX4_readLine 27 = .ok (.iconst 0, 1) := by decide +kernel
theorem dX4_readLine_28 : decode cX4_readLine 28 = .ok (.istore_n 2, 1) := by decide +kernel
theorem dX4_readLine_29 : decode cX4_readLine 29 = .ok (.iload_n 2, 1) := by decide +kernel
theorem dX4_readLine_30 : decode cX4_readLine 30 = .ok (.ifCond .eq 27, 3) := by decide +kernel
theorem dX4_readLine_33 : decode cX4_readLine 33 = .ok (.aload_n 0, 1) := by decide +kernel
theorem dX4_readLine_34 : decode cX4_readLine 34 = .ok (.dup, 1) := by decide +kernel
theorem dX4_readLine_35 : decode cX4_readLine 35 = .ok (.getfield 25, 3) := by decide +kernel
theorem dX4_readLine_38 : decode cX4_readLine 38 = .ok (.iconst 1, 1) := by decide +kernel
theorem dX4_readLine_39 : decode cX4_readLine 39 = .ok (.iadd, 1) := by decide +kernel
theorem dX4_readLine_40 : decode cX4_readLine 40 = .ok (.putfield 25, 3) := by decide +kernel
theorem dX4_readLine_43 : decode cX4_readLine 43 = .ok (.aload_n 0, 1) := by decide +kernel
theorem dX4_readLine_44 : decode cX4_readLine 44 = .ok (.getfield 31, 3) := by decide +kernel
theorem dX4_readLine_47 : decode cX4_readLine 47 = .ok (.iconst (-1), 1) := by decide +kernel
theorem dX4_readLine_48 : decode cX4_readLine 48 = .ok (.invokevirtual 57, 3) := by decide +kernel
theorem dX4_readLine_51 : decode cX4_readLine 51 = .ok (.aload_n 0, 1) := by decide +kernel
theorem dX4_readLine_52 : decode cX4_readLine 52 = .ok (.iconst 0, 1) := by decide +kernel
theorem dX4_readLine_53 : decode cX4_readLine 53 = .ok (.iconst 0, 1) := by decide +kernel
theorem dX4_readLine_54 : decode cX4_readLine 54 = .ok (.invokevirtual 50, 3) := by decide +kernel
theorem dX4_readLine_57 : decode cX4_readLine 57 = .ok (.aload_n 0, 1) := by decide +kernel
theorem dX4_readLine_58 : decode cX4_readLine 58 = .ok (.getfield 31, 3) := by decide +kernel
theorem dX4_readLine_61 : decode cX4_readLine 61 = .ok (.bipush 59, 2) := by decide +kernel
theorem dX4_readLine_63 : decode cX4_readLine 63 = .ok (.invokevirtual 57, 3) := by decide +kernel
theorem dX4_readLine_66 : decode cX4_readLine 66 = .ok (.iload_n 2, 1) := by decide +kernel
theorem dX4_readLine_67 : decode cX4_readLine 67 = .ok (.ifCond .eq 11, 3) := by decide +kernel
theorem dX4_readLine_70 : decode cX4_readLine 70 = .ok (.aload_n 0, 1) := by decide +kernel
theorem dX4_readLine_71 : decode cX4_readLine 71 = .ok (.getfield 31, 3) := by decide +kernel
theorem dX4_readLine_74 : decode cX4_readLine 74 = .ok (.iload_n 1, 1) := by decide +kernel
theorem dX4_readLine_75 : decode cX4_readLine 75 = .ok (.invokevirtual 61, 3) := by decide +kernel
theorem dX4_readLine_78 : decode cX4_readLine 78 = .ok (.return_, 1) := by decide +kernel
set_option maxRecDepth 20000 in
theorem ggX4_readJoined_X4_readOperand : GoodIn wsX4_readJoined wsX4_readOperand := goodIn_r _ [28, 1, 2, 10, 11, 12, 6, 13, 14, 15, 16, 29, 30, 31, 32, 33, 34, 35, 36, 37, 38, 39, 40, 41, 42, 43, 44, 45, 46, 47, 48, 49, 50, 51, 52, 53, 54, 55, 56, 57, 58, 59, 60, 61, 62, 63, 64, 65, 66, 67, 68, 69, 70, 71, 72, 73, 74, 75, 76, 77, 78, 79, 80, 81, 82, 83, 84, 85, 86, 87, 88, 89, 90, 91, 92, 93, 94, 95, 96, 97, 98, 99, 100, 101, 102, 103, 104, 105, 106, 107, 108, 109, 110, 111, 112, 113, 114, 115, 116, 117, 118, 119, 120, 121, 122, 123, 124, 20, 21, 22, 23, 24, 25, 26, 27, 125, 126, 127, 128, 7, 8, 9, 3, 4, 5, 0, 17, 18, 19, 129, 130, 131, 132, 133, 134, 135, 136, 137] rfl (by decide +kernel)
set_option maxRecDepth 20000 in
theorem gX4_readJoined_X4_readOperand : GoodIn wsX4_readJoined (wsV RX4 64 RX4 yX4_readOperand wsX4_readOperand) := goodIn_app (goodIn_of _ (by decide +kernel)) ggX4_readJoined_X4_readOperand
set_option maxRecDepth 20000 in
theorem ggX4_readJoined_X4_readJoined : GoodIn wsX4_readJoined wsX4_readJoined := goodIn_r _ [0, 1, 2, 3, 4, 5, 6, 7, 8, 9, 10, 11, 12, 13, 14, 15, 16, 17, 18, 19, 20, 21, 22, 23, 24, 25, 26, 27, 28, 29, 30, 31, 32, 33, 34, 35, 36, 37, 38, 39, 40, 41, 42, 43, 44, 45, 46, 47, 48, 49, 50, 51, 52, 53, 54, 55, 56, 57, 58, 59, 60, 61, 62, 63, 64, 65, 66, 67, 68, 69, 70, 71, 72, 73, 74, 75, 76, 77, 78, 79, 80, 81, 82, 83, 84, 85, 86, 87, 88, 89, 90, 91, 92, 93, 94, 95, 96, 97, 98, 99, 100, 101, 102, 103, 104, 105, 106, 107, 108, 109, 110, 111, 112, 113, 114, 115, 116, 117, 118, 119, 120, 121, 122, 123, 124, 125, 126, 127, 128, 129, 130, 131, 132, 133, 134, 135, 136, 137] rfl (by decide +kernel)
set_option maxRecDepth 20000 in
theorem gX4_readJoined_X4_readJoined : GoodIn wsX4_readJoined (wsV RX4 50 RX4 yX4_readJoined wsX4_readJoined) := goodIn_app (goodIn_of _ (by decide +kernel)) ggX4_readJoined_X4_readJoined
set_option maxRecDepth 20000 in
theorem ggX4_readJoined_X4_next : GoodIn wsX4_readJoined wsX4_next := goodIn_r _ [13, 14, 1, 15, 16, 129, 130, 131, 132, 133] rfl (by decide +kernel)
set_option maxRecDepth 20000 in
theorem gX4_readJoined_X4_next : GoodIn wsX4_readJoined (wsV RX4 43 RX4 yX4_next wsX4_next) := goodIn_app (goodIn_of _ (by decide +kernel)) ggX4_readJoined_X4_next
set_option maxRecDepth 20000 in
theorem ggX4_readJoined_X4_levelOf : GoodIn wsX4_readJoined wsX4_levelOf := goodIn_r _ [19] rfl (by decide +kernel)
set_option maxRecDepth 20000 in
theorem gX4_readJoined_X4_levelOf : GoodIn wsX4_readJoined (va_wsS RX4 67 yX4_levelOf wsX4_levelOf) := goodIn_app (goodIn_of _ (by decide +kernel)) ggX4_readJoined_X4_levelOf
set_option maxRecDepth 20000 in
theorem ggX4_readJoined_X6_add : GoodIn wsX4_readJoined wsX6_add := goodIn_r _ [24, 25, 26, 27, 134, 135, 136, 137] rfl (by decide +kernel)
set_option maxRecDepth 20000 in
theorem gX4_readJoined_X6_add : GoodIn wsX4_readJoined (wsV RX4 57 RX6 yX6_add wsX6_add) := goodIn_app (goodIn_of _ (by decide +kernel)) ggX4_readJoined_X6_add
theorem dX4_readJoined_0 : decode cX4_readJoined 0 = .ok (.iload_n 1, 1) := by decide +kernel
theorem dX4_readJoined_1 : decode cX4_readJoined 1 = .ok (.iconst 5, 1) := by decide +kernel
theorem dX4_readJoined_2 : decode cX4_readJoined 2 = .ok (.if_icmp .lt 9, 3) := by decide +kernel
theorem dX4_readJoined_5 : decode cX4_readJoined 5 = .ok (.aload_n 0, 1) := by decide +kernel
theorem dX4_readJoined_6 : decode cX4_readJoined 6 = .ok (.iload_n 2, 1) := by decide +kernel
theorem dX4_readJoined_7 : decode cX4_readJoined 7 = .ok (.invokevirtual 64, 3) := by decide +kernel
theorem dX4_readJoined_10 : decode cX4_readJoined 10 = .ok (.return_, 1) := by decide +kernel
theorem dX4_readJoined_11 : decode cX4_readJoined 11 = .ok (.aload_n 0, 1) := by decide +kernel
theorem dX4_readJoined_12 : decode cX4_readJoined 12 = .ok (.iload_n 1, 1) := by decide +kernel
theorem dX4_readJoined_13 : decode cX4_readJoined 13 = .ok (.iconst 1, 1) := by decide +kernel
theorem dX4_readJoined_14 : decode cX4_readJoined 14 = .ok (.iadd, 1) := by decide +kernel
theorem dX4_readJoined_15 : decode cX4_readJoined 15 = .ok (.iload_n 2, 1) := by decide +kernel
theorem dX4_readJoined_16 : decode cX4_readJoined 16 = .ok (.invokevirtual 50, 3) := by decide +kernel
theorem dX4_readJoined_19 : decode cX4_readJoined 19 = .ok (.iload_n 1, 1) := by decide +kernel
theorem dX4_readJoined_20 : decode cX4_readJoined 20 = .ok (.iconst 2, 1) := by decide +kernel
theorem dX4_readJoined_21 : decode cX4_readJoined 21 = .ok (.if_icmp .ne 7, 3) := by decide +kernel
theorem dX4_readJoined_24 : decode cX4_readJoined 24 = .ok (.iconst 1, 1) := by decide +kernel
theorem dX4_readJoined_25 : decode cX4_readJoined 25 = .ok (.goto 5, 3) := by decide +kernel
theorem dX4_readJoined_28 : decode cX4_readJoined 28 = .ok (.bipush 120, 2) := by decide +kernel
theorem dX4_readJoined_30 : decode cX4_readJoined 30 = .ok (.istore_n 3, 1) := by decide +kernel
theorem dX4_readJoined_31 : decode cX4_readJoined 31 = .ok (.iconst 0, 1) := by decide +kernel
theorem dX4_readJoined_32 : decode cX4_readJoined 32 = .ok (.istore 4, 2) := by decide +kernel
theorem dX4_readJoined_34 : decode cX4_readJoined 34 = .ok (.iload 4, 2) := by decide +kernel
theorem dX4_readJoined_36 : decode cX4_readJoined 36 = .ok (.iload_n 3, 1) := by decide +kernel
theorem dX4_readJoined_37 : decode cX4_readJoined 37 = .ok (.if_icmp .ge 53, 3) := by decide +kernel
theorem dX4_readJoined_40 : decode cX4_readJoined 40 = .ok (.aload_n 0, 1) := by decide +kernel
theorem dX4_readJoined_41 : decode cX4_readJoined 41 = .ok (.invokevirtual 43, 3) := by decide +kernel
theorem dX4_readJoined_44 : decode cX4_readJoined 44 = .ok (.invokestatic 67, 3) := by decide +kernel
theorem dX4_readJoined_47 : decode cX4_readJoined 47 = .ok (.iload_n 1, 1) := by decide +kernel
theorem dX4_readJoined_48 : decode cX4_readJoined 48 = .ok (.if_icmp .ne 42, 3) := by decide +kernel
theorem dX4_readJoined_51 : decode cX4_readJoined 51 = .ok (.aload_n 0, 1) := by decide +kernel
theorem dX4_readJoined_52 : decode cX4_readJoined 52 = .ok (.invokevirtual 43, 3) := by decide +kernel
theorem dX4_readJoined_55 : decode cX4_readJoined 55 = .ok (.istore 5, 2) := by decide +kernel
theorem dX4_readJoined_57 : decode cX4_readJoined 57 = .ok (.aload_n 0, 1) := by decide +kernel
theorem dX4_readJoined_58 : decode cX4_readJoined 58 = .ok (.dup, 1) := by decide +kernel
theorem dX4_readJoined_59 : decode cX4_readJoined 59 = .ok (.getfield 25, 3) := by decide +kernel
theorem dX4_readJoined_62 : decode cX4_readJoined 62 = .ok (.iconst 1, 1) := by decide +kernel
theorem dX4_readJoined_63 : decode cX4_readJoined 63 = .ok (.iadd, 1) := by decide +kernel
theorem dX4_readJoined_64 : decode cX4_readJoined 64 = .ok (.putfield 25, 3) := by decide +kernel
theorem dX4_readJoined_67 : decode cX4_readJoined 67 = .ok (.aload_n 0, 1) := by decide +kernel
theorem dX4_readJoined_68 : decode cX4_readJoined 68 = .ok (.iload_n 1, 1) := by decide +kernel
theorem dX4_readJoined_69 : decode cX4_readJoined 69 = .ok (.iconst 1, 1) := by decide +kernel
theorem dX4_readJoined_70 : decode cX4_readJoined 70 = .ok (.iadd, 1) := by decide +kernel
theorem dX4_readJoined_71 : decode cX4_readJoined 71 = .ok (.iload_n 2, 1) := by decide +kernel
theorem dX4_readJoined_72 : decode cX4_readJoined 72 = .ok (.invokevirtual 50, 3) := by decide +kernel
theorem dX4_readJoined_75 : decode cX4_readJoined 75 = .ok (.aload_n 0, 1) := by decide +kernel
theorem dX4_readJoined_76 : decode cX4_readJoined 76 = .ok (.getfield 31, 3) := by decide +kernel
theorem dX4_readJoined_79 : decode cX4_readJoined 79 = .ok (.iload 5, 2) := by decide +kernel
theorem dX4_readJoined_81 : decode cX4_readJoined 81 = .ok (.invokevirtual 57, 3) := by decide +kernel
theorem dX4_readJoined_84 : decode cX4_readJoined 84 = .ok (.iinc 4 1, 3) := by decide +kernel
theorem dX4_readJoined_87 : decode cX4_readJoined 87 = .ok (.goto (-53), 3) := by decide +kernel
theorem dX4_readJoined_90 : decode cX4_readJoined 90 = .ok (.return_, 1) := by decide +kernel
set_option maxRecDepth 20000 in
theorem ggX4_readOperand_X4_next : GoodIn wsX4_readOperand wsX4_next := goodIn_r _ [7, 8, 1, 9, 10, 129, 130, 131, 132, 133] rfl (by decide +kernel)
set_option maxRecDepth 20000 in
theorem gX4_readOperand_X4_next : GoodIn wsX4_readOperand (wsV RX4 43 RX4 yX4_next wsX4_next) := goodIn_app (goodIn_of _ (by decide +kernel)) ggX4_readOperand_X4_next
set_option maxRecDepth 20000 in
theorem ggX4_readOperand_J0_indexOf_0f7a4 : GoodIn wsX4_readOperand wsJ0_indexOf_0f7a4 := goodIn_r _ [15, 16, 17, 18, 14, 19, 20, 21, 22, 23, 24, 25, 26, 27, 28, 29, 30, 31, 32, 33, 34, 35, 36, 37, 38, 39, 40, 41, 42, 43, 44, 45, 46, 47, 48, 49, 50, 51, 52, 53, 54, 55, 56, 57, 58, 59, 60, 61, 62, 63, 64, 65, 66, 67, 68, 69, 70, 71, 72, 73, 74, 75, 76, 77, 78, 79, 80, 81, 82, 83, 84, 85, 86, 87, 88, 89, 90, 91, 92, 93, 94, 95, 96, 97, 98, 99] rfl (by decide +kernel)
set_option maxRecDepth 20000 in
theorem gX4_readOperand_J0_indexOf_0f7a4 : GoodIn wsX4_readOperand (wsV RX4 73 RJ0 yJ0_indexOf_0f7a4 wsJ0_indexOf_0f7a4) := goodIn_app (goodIn_of _ (by decide +kernel)) ggX4_readOperand_J0_indexOf_0f7a4
set_option maxRecDepth 20000 in
theorem ggX4_readOperand_X4_isDigit : GoodIn wsX4_readOperand wsX4_isDigit := goodIn_r _ [102] rfl (by decide +kernel)
set_option maxRecDepth 20000 in
theorem gX4_readOperand_X4_isDigit : GoodIn wsX4_readOperand (va_wsS RX4 78 yX4_isDigit wsX4_isDigit) := goodIn_app (goodIn_of _ (by decide +kernel)) ggX4_readOperand_X4_isDigit
set_option maxRecDepth 20000 in
theorem ggX4_readOperand_X4_readNumber : GoodIn wsX4_readOperand wsX4_readNumber := goodIn_r _ [106, 1, 2, 3, 4, 5, 6, 7, 8, 9, 10, 100, 101, 102, 107, 108, 109, 110, 111, 112, 113, 114, 129, 130, 131, 132, 133, 134, 135, 136, 137] rfl (by decide +kernel)
set_option maxRecDepth 20000 in
theorem gX4_readOperand_X4_readNumber : GoodIn wsX4_readOperand (wsV RX4 82 RX4 yX4_readNumber wsX4_readNumber) := goodIn_app (goodIn_of _ (by decide +kernel)) ggX4_readOperand_X4_readNumber
set_option maxRecDepth 20000 in
theorem ggX4_readOperand_X6_add : GoodIn wsX4_readOperand wsX6_add := goodIn_r _ [111, 112, 113, 114, 134, 135, 136, 137] rfl (by decide +kernel)
set_option maxRecDepth 20000 in
theorem gX4_readOperand_X6_add : GoodIn wsX4_readOperand (wsV RX4 57 RX6 yX6_add wsX6_add) := goodIn_app (goodIn_of _ (by decide +kernel)) ggX4_readOperand_X6_add
set_option maxRecDepth 20000 in
theorem ggX4_readOperand_X4_fail : GoodIn wsX4_readOperand wsX4_fail := goodIn_r _ [118, 8, 1, 129, 130, 131, 132, 133] rfl (by decide +kernel)
set_option maxRecDepth 20000 in
theorem gX4_readOperand_X4_fail : GoodIn wsX4_readOperand (wsV RX4 47 RX4 yX4_fail wsX4_fail) := goodIn_app (goodIn_of _ (by decide +kernel)) ggX4_readOperand_X4_fail
set_option maxRecDepth 20000 in
theorem ggX4_readOperand_X4_readJoined : GoodIn wsX4_readOperand wsX4_readJoined := goodIn_r _ [125, 1, 2, 122, 123, 124, 6, 119, 120, 121, 3, 4, 5, 7, 8, 9, 10, 126, 127, 128, 107, 108, 109, 110, 111, 112, 113, 114, 0, 11, 12, 13, 14, 15, 16, 17, 18, 19, 20, 21, 22, 23, 24, 25, 26, 27, 28, 29, 30, 31, 32, 33, 34, 35, 36, 37, 38, 39, 40, 41, 42, 43, 44, 45, 46, 47, 48, 49, 50, 51, 52, 53, 54, 55, 56, 57, 58, 59, 60, 61, 62, 63, 64, 65, 66, 67, 68, 69, 70, 71, 72, 73, 74, 75, 76, 77, 78, 79, 80, 81, 82, 83, 84, 85, 86, 87, 88, 89, 90, 91, 92, 93, 94, 95, 96, 97, 98, 99, 100, 101, 102, 103, 104, 105, 106, 115, 116, 117, 118, 129, 130, 131, 132, 133, 134, 135, 136, 137] rfl (by decide +kernel)
set_option maxRecDepth 20000 in
theorem gX4_readOperand_X4_readJoined : GoodIn wsX4_readOperand (wsV RX4 50 RX4 yX4_readJoined wsX4_readJoined) := goodIn_app (goodIn_of _ (by decide +kernel)) ggX4_readOperand_X4_readJoined
set_option maxRecDepth 20000 in
theorem ggX4_readOperand_X4_readOperand : GoodIn wsX4_readOperand wsX4_readOperand := goodIn_r _ [0, 1, 2, 3, 4, 5, 6, 7, 8, 9, 10, 11, 12, 13, 14, 15, 16, 17, 18, 19, 20, 21, 22, 23, 24, 25, 26, 27, 28, 29, 30, 31, 32, 33, 34, 35, 36, 37, 38, 39, 40, 41, 42, 43, 44, 45, 46, 47, 48, 49, 50, 51, 52, 53, 54, 55, 56, 57, 58, 59, 60, 61, 62, 63, 64, 65, 66, 67, 68, 69, 70, 71, 72, 73, 74, 75, 76, 77, 78, 79, 80, 81, 82, 83, 84, 85, 86, 87, 88, 89, 90, 91, 92, 93, 94, 95, 96, 97, 98, 99, 100, 101, 102, 103, 104, 105, 106, 107, 108, 109, 110, 111, 112, 113, 114, 115, 116, 117, 118, 119, 120, 121, 122, 123, 124, 125, 126, 127, 128, 129, 130, 131, 132, 133, 134, 135, 136, 137] rfl (by decide +kernel)
set_option maxRecDepth 20000 in
theorem gX4_readOperand_X4_readOperand : GoodIn wsX4_readOperand (wsV RX4 64 RX4 yX4_readOperand wsX4_readOperand) := goodIn_app (goodIn_of _ (by decide +kernel)) ggX4_readOperand_X4_readOperand
theorem dX4_readOperand_0 : decode cX4_readOperand 0 = .ok (.aload_n 0, 1) := by decide +kernel
theorem dX4_readOperand_1 : decode cX4_readOperand 1 = .ok (.invokevirtual 43, 3) := by decide +kernel
theorem dX4_readOperand_4 : decode cX4_readOperand 4 = .ok (.istore_n 2, 1) := by decide +kernel
theorem dX4_readOperand_5 : decode cX4_readOperand 5 = .ok (.iload_n 2, 1) := by decide +kernel
theorem dX4_readOperand_6 : decode cX4_readOperand 6 = .ok (.ifCond .ge 7, 3) := by decide +kernel
theorem dX4_readOperand_9 : decode cX4_readOperand 9 = .ok (.iconst (-1), 1) := by decide +kernel
theorem dX4_readOperand_10 : decode cX4_readOperand 10 = .ok (.goto 10, 3) := by decide +kernel
theorem dX4_readOperand_13 : decode cX4_readOperand 13 = .ok (.ldc 71, 2) := by decide +kernel
theorem dX4_readOperand_15 : decode cX4_readOperand 15 = .ok (.iload_n 2, 1) := by decide +kernel
theorem dX4_readOperand_16 : decode cX4_readOperand 16 = .ok (.i2c, 1) := by decide +kernel
theorem dX4_readOperand_17 : decode cX4_readOperand 17 = .ok (.invokevirtual 73, 3) := by decide +kernel
theorem dX4_readOperand_20 : decode cX4_readOperand 20 = .ok (.istore_n 3, 1) := by decide +kernel
theorem dX4_readOperand_21 : decode cX4_readOperand 21 = .ok (.iload_n 2, 1) := by decide +kernel
theorem dX4_readOperand_22 : decode cX4_readOperand 22 = .ok (.invokestatic 78, 3) := by decide +kernel
theorem dX4_readOperand_25 : decode cX4_readOperand 25 = .ok (.ifCond .eq 10, 3) := by decide +kernel
theorem dX4_readOperand_28 : decode cX4_readOperand 28 = .ok (.aload_n 0, 1) := by decide +kernel
theorem dX4_readOperand_29 : decode cX4_readOperand 29 = .ok (.invokevirtual 82, 3) := by decide +kernel
theorem dX4_readOperand_32 : decode cX4_readOperand 32 = .ok (.goto 149, 3) := by decide +kernel
theorem dX4_readOperand_35 : decode cX4_readOperand 35 = .ok (.iload_n 3, 1) := by decide +kernel
theorem dX4_readOperand_36 : decode cX4_readOperand 36 = .ok (.ifCond .lt 24, 3) := by decide +kernel
theorem dX4_readOperand_39 : decode cX4_readOperand 39 = .ok (.aload_n 0, 1) := by decide +kernel
theorem dX4_readOperand_40 : decode cX4_readOperand 40 = .ok (.dup, 1) := by decide +kernel
theorem dX4_readOperand_41 : decode cX4_readOperand 41 = .ok (.getfield 25, 3) := by decide +kernel
theorem dX4_readOperand_44 : decode cX4_readOperand 44 = .ok (.iconst 1, 1) := by decide +kernel
theorem dX4_readOperand_45 : decode cX4_readOperand 45 = .ok (.iadd, 1) := by decide +kernel
theorem dX4_readOperand_46 : decode cX4_readOperand 46 = .ok (.putfield 25, 3) := by decide +kernel
theorem dX4_readOperand_49 : decode cX4_readOperand 49 = .ok (.aload_n 0, 1) := by decide +kernel
theorem dX4_readOperand_50 : decode cX4_readOperand 50 = .ok (.getfield 31, 3) := by decide +kernel
theorem dX4_readOperand_53 : decode cX4_readOperand 53 = .ok (.iload_n 3, 1) := by decide +kernel
theorem dX4_readOperand_54 : decode cX4_readOperand 54 = .ok (.invokevirtual 57, 3) := by decide +kernel
theorem dX4_readOperand_57 : decode cX4_readOperand 57 = .ok (.goto 124, 3) := by decide +kernel
theorem dX4_readOperand_60 : decode cX4_readOperand 60 = .ok (.iload_n 1, 1) := by decide +kernel
theorem dX4_readOperand_61 : decode cX4_readOperand 61 = .ok (.bipush 6, 2) := by decide +kernel
theorem dX4_readOperand_63 : decode cX4_readOperand 63 = .ok (.if_icmp .lt 10, 3) := by decide +kernel
theorem dX4_readOperand_66 : decode cX4_readOperand 66 = .ok (.aload_n 0, 1) := by decide +kernel
theorem dX4_readOperand_67 : decode cX4_readOperand 67 = .ok (.invokevirtual 47, 3) := by decide +kernel
theorem dX4_readOperand_70 : decode cX4_readOperand 70 = .ok (.goto 111, 3) := by decide +kernel
theorem dX4_readOperand_73 : decode cX4_readOperand 73 = .ok (.iload_n 2, 1) := by decide +kernel
theorem dX4_readOperand_74 : decode cX4_readOperand 74 = .ok (.bipush 40, 2) := by decide +kernel
theorem dX4_readOperand_76 : decode cX4_readOperand 76 = .ok (.if_icmp .ne 50, 3) := by decide +kernel
theorem dX4_readOperand_79 : decode cX4_readOperand 79 = .ok (.aload_n 0, 1) := by decide +kernel
theorem dX4_readOperand_80 : decode cX4_readOperand 80 = .ok (.dup, 1) := by decide +kernel
theorem dX4_readOperand_81 : decode cX4_readOperand 81 = .ok (.getfield 25, 3) := by decide +kernel
theorem dX4_readOperand_84 : decode cX4_readOperand 84 = .ok (.iconst 1, 1) := by decide +kernel
theorem dX4_readOperand_85 : decode cX4_readOperand 85 = .ok (.iadd, 1) := by decide +kernel
theorem dX4_readOperand_86 : decode cX4_readOperand 86 = .ok (.putfield 25, 3) := by decide +kernel
theorem dX4_readOperand_89 : decode cX4_readOperand 89 = .ok (.aload_n 0, 1) := by decide +kernel
theorem dX4_readOperand_90 : decode cX4_readOperand 90 = .ok (.iconst 0, 1) := by decide +kernel
theorem dX4_readOperand_91 : decode cX4_readOperand 91 = .ok (.iload_n 1, 1) := by decide +kernel
theorem dX4_readOperand_92 : decode cX4_readOperand 92 = .ok (.iconst 1, 1) := by decide +kernel
theorem dX4_readOperand_93 : decode cX4_readOperand 93 = .ok (.iadd, 1) := by decide +kernel
theorem dX4_readOperand_94 : decode cX4_readOperand 94 = .ok (.invokevirtual 50, 3) := by decide +kernel
theorem dX4_readOperand_97 : decode cX4_readOperand 97 = .ok (.aload_n 0, 1) := by decide +kernel
theorem dX4_readOperand_98 : decode cX4_readOperand 98 = .ok (.invokevirtual 43, 3) := by decide +kernel
theorem dX4_readOperand_101 : decode cX4_readOperand 101 = .ok (.bipush 41, 2) := by decide +kernel
theorem dX4_readOperand_103 : decode cX4_readOperand 103 = .ok (.if_icmp .ne 16, 3) := by decide +kernel
theorem dX4_readOperand_106 : decode cX4_readOperand 106 = .ok (.aload_n 0, 1) := by decide +kernel
theorem dX4_readOperand_107 : decode cX4_readOperand 107 = .ok (.dup, 1) := by decide +kernel
theorem dX4_readOperand_108 : decode cX4_readOperand 108 = .ok (.getfield 25, 3) := by decide +kernel
theorem dX4_readOperand_111 : decode cX4_readOperand 111 = .ok (.iconst 1, 1) := by decide +kernel
theorem dX4_readOperand_112 : decode cX4_readOperand 112 = .ok (.iadd, 1) := by decide +kernel
theorem dX4_readOperand_113 : decode cX4_readOperand 113 = .ok (.putfield 25, 3) := by decide +kernel
theorem dX4_readOperand_116 : decode cX4_readOperand 116 = .ok (.goto 65, 3) := by decide +kernel
theorem dX4_readOperand_119 : decode cX4_readOperand 119 = .ok (.aload_n 0, 1) := by decide +kernel
theorem dX4_readOperand_120 : decode cX4_readOperand 120 = .ok (.invokevirtual 47, 3) := by decide +kernel
theorem dX4_readOperand_123 : decode cX4_readOperand 123 = .ok (.goto 58, 3) := by decide +kernel
theorem dX4_readOperand_126 : decode cX4_readOperand 126 = .ok (.iload_n 2, 1) := by decide +kernel
theorem dX4_readOperand_127 : decode cX4_readOperand 127 = .ok (.bipush 33, 2) := by decide +kernel
theorem dX4_readOperand_129 : decode cX4_readOperand 129 = .ok (.if_icmp .eq 9, 3) := by decide +kernel
theorem dX4_readOperand_132 : decode cX4_readOperand 132 = .ok (.iload_n 2, 1) := by decide +kernel
theorem dX4_readOperand_133 : decode cX4_readOperand 133 = .ok (.bipush 45, 2) := by decide +kernel
theorem dX4_readOperand_135 : decode cX4_readOperand 135 = .ok (.if_icmp .ne 42, 3) := by decide +kernel
theorem dX4_readOperand_138 : decode cX4_readOperand 138 = .ok (.aload_n 0, 1) := by decide +kernel
theorem dX4_readOperand_139 : decode cX4_readOperand 139 = .ok (.dup, 1) := by decide +kernel
theorem dX4_readOperand_140 : decode cX4_readOperand 140 = .ok (.getfield 25, 3) := by decide +kernel
theorem dX4_readOperand_143 : decode cX4_readOperand 143 = .ok (.iconst 1, 1) := by decide +kernel
theorem dX4_readOperand_144 : decode cX4_readOperand 144 = .ok (.iadd, 1) := by decide +kernel
theorem dX4_readOperand_145 : decode cX4_readOperand 145 = .ok (.putfield 25, 3) := by decide +kernel
theorem dX4_readOperand_148 : decode cX4_readOperand 148 = .ok (.aload_n 0, 1) := by decide +kernel
theorem dX4_readOperand_149 : decode cX4_readOperand 149 = .ok (.iload_n 1, 1) := by decide +kernel
theorem dX4_readOperand_150 : decode cX4_readOperand 150 = .ok (.iconst 1, 1) := by decide +kernel
theorem dX4_readOperand_151 : decode cX4_readOperand 151 = .ok (.iadd, 1) := by decide +kernel
theorem dX4_readOperand_152 : decode cX4_readOperand 152 = .ok (.invokevirtual 64, 3) := by decide +kernel
theorem dX4_readOperand_155 : decode cX4_readOperand 155 = .ok (.aload_n 0, 1) := by decide +kernel
theorem dX4_readOperand_156 : decode cX4_readOperand 156 = .ok (.getfield 31, 3) := by decide +kernel
theorem dX4_readOperand_159 : decode cX4_readOperand 159 = .ok (.iload_n 2, 1) := by decide +kernel
theorem dX4_readOperand_160 : decode cX4_readOperand 160 = .ok (.bipush 45, 2) := by decide +kernel
theorem dX4_readOperand_162 : decode cX4_readOperand 162 = .ok (.if_icmp .ne 8, 3) := by decide +kernel
theorem dX4_readOperand_165 : decode cX4_readOperand 165 = .ok (.bipush 126, 2) := by decide +kernel
theorem dX4_readOperand_167 : decode cX4_readOperand 167 = .ok (.goto 4, 3) := by decide +kernel
theorem dX4_readOperand_170 : decode cX4_readOperand 170 = .ok (.iload_n 2, 1) := by decide +kernel
theorem dX4_readOperand_171 : decode cX4_readOperand 171 = .ok (.invokevirtual 57, 3) := by decide +kernel
theorem dX4_readOperand_174 : decode cX4_readOperand 174 = .ok (.goto 7, 3) := by decide +kernel
theorem dX4_readOperand_177 : decode cX4_readOperand 177 = .ok (.aload_n 0, 1) := by decide +kernel
theorem dX4_readOperand_178 : decode cX4_readOperand 178 = .ok (.invokevirtual 47, 3) := by decide +kernel
theorem dX4_readOperand_181 : decode cX4_readOperand 181 = .ok (.return_, 1) := by decide +kernel
set_option maxRecDepth 20000 in
theorem ggX4_readNumber_X4_next : GoodIn wsX4_readNumber wsX4_next := goodIn_r _ [7, 8, 1, 9, 10, 22, 23, 24, 25, 26] rfl (by decide +kernel)
set_option maxRecDepth 20000 in
theorem gX4_readNumber_X4_next : GoodIn wsX4_readNumber (wsV RX4 43 RX4 yX4_next wsX4_next) := goodIn_app (goodIn_of _ (by decide +kernel)) ggX4_readNumber_X4_next
set_option maxRecDepth 20000 in
theorem ggX4_readNumber_X4_isDigit : GoodIn wsX4_readNumber wsX4_isDigit := goodIn_r _ [13] rfl (by decide +kernel)
set_option maxRecDepth 20000 in
theorem gX4_readNumber_X4_isDigit : GoodIn wsX4_readNumber (va_wsS RX4 78 yX4_isDigit wsX4_isDigit) := goodIn_app (goodIn_of _ (by decide +kernel)) ggX4_readNumber_X4_isDigit
set_option maxRecDepth 20000 in
theorem ggX4_readNumber_X6_add : GoodIn wsX4_readNumber wsX6_add := goodIn_r _ [18, 19, 20, 21, 27, 28, 29, 30] rfl (by decide +kernel)
set_option maxRecDepth 20000 in
theorem gX4_readNumber_X6_add : GoodIn wsX4_readNumber (wsV RX4 57 RX6 yX6_add wsX6_add) := goodIn_app (goodIn_of _ (by decide +kernel)) ggX4_readNumber_X6_add
theorem dX4_readNumber_0 : decode cX4_readNumber 0 = .ok (.iconst 0, 1) := by decide +kernel
theorem dX4_readNumber_1 : decode cX4_readNumber 1 = .ok (.istore_n 1, 1) := by decide +kernel
theorem dX4_readNumber_2 : decode cX4_readNumber 2 = .ok (.iconst 0, 1) := by decide +kernel
theorem dX4_readNumber_3 : decode cX4_readNumber 3 = .ok (.istore_n 2, 1) := by decide +kernel
theorem dX4_readNumber_4 : decode cX4_readNumber 4 = .ok (.iload_n 2, 1) := by decide +kernel
theorem dX4_readNumber_5 : decode cX4_readNumber 5 = .ok (.iconst 4, 1) := by decide +kernel
theorem dX4_readNumber_6 : decode cX4_readNumber 6 = .ok (.if_icmp .ge 42, 3) := by decide +kernel
theorem dX4_readNumber_9 : decode cX4_readNumber 9 = .ok (.aload_n 0, 1) := by decide +kernel
theorem dX4_readNumber_10 : decode cX4_readNumber 10 = .ok (.invokevirtual 43, 3) := by decide +kernel
theorem dX4_readNumber_13 : decode cX4_readNumber 13 = .ok (.invokestatic 78, 3) := by decide +kernel
theorem dX4_readNumber_16 : decode cX4_readNumber 16 = .ok (.ifCond .eq 32, 3) := by decide +kernel
theorem dX4_readNumber_19 : decode cX4_readNumber 19 = .ok (.bipush 10, 2) := by decide +kernel
theorem dX4_readNumber_21 : decode cX4_readNumber 21 = .ok (.iload_n 1, 1) := by decide +kernel
theorem dX4_readNumber_22 : decode cX4_readNumber 22 = .ok (.imul, 1) := by decide +kernel
theorem dX4_readNumber_23 : decode cX4_readNumber 23 = .ok (.aload_n 0, 1) := by decide +kernel
theorem dX4_readNumber_24 : decode cX4_readNumber 24 = .ok (.invokevirtual 43, 3) := by decide +kernel
theorem dX4_readNumber_27 : decode cX4_readNumber 27 = .ok (.iadd, 1) := by decide +kernel
theorem dX4_readNumber_28 : decode cX4_readNumber 28 = .ok (.bipush 48, 2) := by decide +kernel
theorem dX4_readNumber_30 : decode cX4_readNumber 30 = .ok (.isub, 1) := by decide +kernel
theorem dX4_readNumber_31 : decode cX4_readNumber 31 = .ok (.istore_n 1, 1) := by decide +kernel
theorem dX4_readNumber_32 : decode cX4_readNumber 32 = .ok (.aload_n 0, 1) := by decide +kernel
theorem dX4_readNumber_33 : decode cX4_readNumber 33 = .ok (.dup, 1) := by decide +kernel
theorem dX4_readNumber_34 : decode cX4_readNumber 34 = .ok (.getfield 25, 3) := by decide +kernel
theorem dX4_readNumber_37 : decode cX4_readNumber 37 = .ok (.iconst 1, 1) := by decide +kernel
theorem dX4_readNumber_38 : decode cX4_readNumber 38 = .ok (.iadd, 1) := by decide +kernel
theorem dX4_readNumber_39 : decode cX4_readNumber 39 = .ok (.putfield 25, 3) := by decide +kernel
theorem dX4_readNumber_42 : decode cX4_readNumber 42 = .ok (.iinc 2 1, 3) := by decide +kernel
theorem dX4_readNumber_45 : decode cX4_readNumber 45 = .ok (.goto (-41), 3) := by decide +kernel
theorem dX4_readNumber_48 : decode cX4_readNumber 48 = .ok (.aload_n 0, 1) := by decide +kernel
theorem dX4_readNumber_49 : decode cX4_readNumber 49 = .ok (.getfield 31, 3) := by decide +kernel
theorem dX4_readNumber_52 : decode cX4_readNumber 52 = .ok (.sipush 1000, 3) := by decide +kernel
theorem dX4_readNumber_55 : decode cX4_readNumber 55 = .ok (.iload_n 1, 1) := by decide +kernel
theorem dX4_readNumber_56 : decode cX4_readNumber 56 = .ok (.iadd, 1) := by decide +kernel
theorem dX4_readNumber_57 : decode cX4_readNumber 57 = .ok (.invokevirtual 57, 3) := by decide +kernel
theorem dX4_readNumber_60 : decode cX4_readNumber 60 = .ok (.return_, 1) := by decide +kernel
theorem dX4_isDigit_0 : decode cX4_isDigit 0 = .ok (.iload_n 0, 1) := by decide +kernel
theorem dX4_isDigit_1 : decode cX4_isDigit 1 = .ok (.bipush 48, 2) := by decide +kernel
theorem dX4_isDigit_3 : decode cX4_isDigit 3 = .ok (.if_icmp .lt 13, 3) := by decide +kernel
theorem dX4_isDigit_6 : decode cX4_isDigit 6 = .ok (.iload_n 0, 1) := by decide +kernel
theorem dX4_isDigit_7 : decode cX4_isDigit 7 = .ok (.bipush 57, 2) := by decide +kernel
theorem dX4_isDigit_9 : decode cX4_isDigit 9 = .ok (.if_icmp .gt 7, 3) := by decide +kernel
theorem dX4_isDigit_12 : decode cX4_isDigit 12 = .ok (.iconst 1, 1) := by decide +kernel
theorem dX4_isDigit_13 : decode cX4_isDigit 13 = .ok (.goto 4, 3) := by decide +kernel
theorem dX4_isDigit_16 : decode cX4_isDigit 16 = .ok (.iconst 0, 1) := by decide +kernel
theorem dX4_isDigit_17 : decode cX4_isDigit 17 = .ok (.ireturn, 1) := by decide +kernel
theorem dX4_levelOf_0 : decode cX4_levelOf 0 = .ok (.iload_n 0, 1) := by decide +kernel
theorem dX4_levelOf_1 : decode cX4_levelOf 1 = .ok (.lookupswitch 101 #[(37, 99), (38, 93), (42, 99), (43, 97), (45, 97), (47, 99), (60, 95), (61, 95), (62, 95), (124, 91)], 91) := by decide +kernel
theorem dX4_levelOf_92 : decode cX4_levelOf 92 = .ok (.iconst 0, 1) := by decide +kernel
theorem dX4_levelOf_93 : decode cX4_levelOf 93 = .ok (.ireturn, 1) := by decide +kernel
theorem dX4_levelOf_94 : decode cX4_levelOf 94 = .ok (.iconst 1, 1) := by decide +kernel
theorem dX4_levelOf_95 : decode cX4_levelOf 95 = .ok (.ireturn, 1) := by decide +kernel
theorem dX4_levelOf_96 : decode cX4_levelOf 96 = .ok (.iconst 2, 1) := by decide +kernel
theorem dX4_levelOf_97 : decode cX4_levelOf 97 = .ok (.ireturn, 1) := by decide +kernel
theorem dX4_levelOf_98 : decode cX4_levelOf 98 = .ok (.iconst 3, 1) := by decide +kernel
theorem dX4_levelOf_99 : decode cX4_levelOf 99 = .ok (.ireturn, 1) := by decide +kernel
theorem dX4_levelOf_100 : decode cX4_levelOf 100 = .ok (.iconst 4, 1) := by decide +kernel
theorem dX4_levelOf_101 : decode cX4_levelOf 101 = .ok (.ireturn, 1) := by decide +kernel
theorem dX4_levelOf_102 : decode cX4_levelOf 102 = .ok (.iconst (-1), 1) := by decide +kernel
theorem dX4_levelOf_103 : decode cX4_levelOf 103 = .ok (.ireturn, 1) := by decide +kernel
theorem dX4_next_0 : decode cX4_next 0 = .ok (.aload_n 0, 1) := by decide +kernel
theorem dX4_next_1 : decode cX4_next 1 = .ok (.getfield 28, 3) := by decide +kernel
theorem dX4_next_4 : decode cX4_next 4 = .ok (.iconst (-1), 1) := by decide +kernel
theorem dX4_next_5 : decode cX4_next 5 = .ok (.if_icmp .ne 33, 3) := by decide +kernel
theorem dX4_next_8 : decode cX4_next 8 = .ok (.aload_n 0, 1) := by decide +kernel
theorem dX4_next_9 : decode cX4_next 9 = .ok (.getfield 25, 3) := by decide +kernel
theorem dX4_next_12 : decode cX4_next 12 = .ok (.ifCond .lt 26, 3) := by decide +kernel
theorem dX4_next_15 : decode cX4_next 15 = .ok (.aload_n 0, 1) := by decide +kernel
theorem dX4_next_16 : decode cX4_next 16 = .ok (.getfield 25, 3) := by decide +kernel
theorem dX4_next_19 : decode cX4_next 19 = .ok (.aload_n 0, 1) := by decide +kernel
theorem dX4_next_20 : decode cX4_next 20 = .ok (.getfield 21, 3) := by decide +kernel
theorem dX4_next_23 : decode cX4_next 23 = .ok (.if_icmp .ge 15, 3) := by decide +kernel
theorem dX4_next_26 : decode cX4_next 26 = .ok (.aload_n 0, 1) := by decide +kernel
theorem dX4_next_27 : decode cX4_next 27 = .ok (.getfield 9, 3) := by decide +kernel
theorem dX4_next_30 : decode cX4_next 30 = .ok (.aload_n 0, 1) := by decide +kernel
theorem dX4_next_31 : decode cX4_next 31 = .ok (.getfield 25, 3) := by decide +kernel
theorem dX4_next_34 : decode cX4_next 34 = .ok (.iaload, 1) := by decide +kernel
theorem dX4_next_35 : decode cX4_next 35 = .ok (.goto 4, 3) := by decide +kernel
theorem dX4_next_38 : decode cX4_next 38 = .ok (.iconst (-1), 1) := by decide +kernel
theorem dX4_next_39 : decode cX4_next 39 = .ok (.ireturn, 1) := by decide +kernel
theorem dX4_fail_0 : decode cX4_fail 0 = .ok (.aload_n 0, 1) := by decide +kernel
theorem dX4_fail_1 : decode cX4_fail 1 = .ok (.getfield 28, 3) := by decide +kernel
theorem dX4_fail_4 : decode cX4_fail 4 = .ok (.iconst (-1), 1) := by decide +kernel
theorem dX4_fail_5 : decode cX4_fail 5 = .ok (.if_icmp .ne 11, 3) := by decide +kernel
theorem dX4_fail_8 : decode cX4_fail 8 = .ok (.aload_n 0, 1) := by decide +kernel
theorem dX4_fail_9 : decode cX4_fail 9 = .ok (.aload_n 0, 1) := by decide +kernel
theorem dX4_fail_10 : decode cX4_fail 10 = .ok (.getfield 25, 3) := by decide +kernel
theorem dX4_fail_13 : decode cX4_fail 13 = .ok (.putfield 28, 3) := by decide +kernel
theorem dX4_fail_16 : decode cX4_fail 16 = .ok (.return_, 1) := by decide +kernel
