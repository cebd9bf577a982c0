set_option maxRecDepth 20000 in
theorem ggX8_begin_X3_hasPlace : GoodIn wsX8_begin wsX3_hasPlace := goodIn_r _ [8, 9, 216, 217, 218, 219, 220, 221, 222, 223, 224, 225] rfl (by decide +kernel)
set_option maxRecDepth 20000 in
theorem gX8_begin_X3_hasPlace : GoodIn wsX8_begin (wsV RX8 135 RX3 yX3_hasPlace wsX3_hasPlace) := goodIn_app (goodIn_of _ (by decide +kernel)) ggX8_begin_X3_hasPlace
set_option maxRecDepth 20000 in
theorem ggX8_begin_X8_prepareTrip : GoodIn wsX8_begin wsX8_prepareTrip := goodIn_r _ [14, 1, 15, 3, 16, 17, 18, 19, 20, 21, 22, 7, 23, 9, 24, 25, 26, 27, 28, 29, 5, 6, 8, 30, 31, 32, 33, 34, 35, 36, 37, 38, 39, 40, 41, 42, 43, 44, 45, 46, 47, 13, 48, 49, 50, 51, 52, 53, 54, 55, 56, 57, 58, 59, 60, 61, 62, 63, 64, 65, 66, 67, 68, 69, 70, 71, 72, 73, 74, 75, 200, 201, 202, 203, 204, 205, 206, 207, 208, 209, 210, 211, 212, 213, 214, 215, 226, 227, 228, 229, 230, 231, 232, 233, 234, 235, 236, 237, 238, 239, 240, 241, 242, 216, 217, 218, 219, 220, 221, 222, 223, 224, 225, 243, 244, 245] rfl (by decide +kernel)
set_option maxRecDepth 20000 in
theorem gX8_begin_X8_prepareTrip : GoodIn wsX8_begin (wsV RX8 186 RX8 yX8_prepareTrip wsX8_prepareTrip) := goodIn_app (goodIn_of _ (by decide +kernel)) ggX8_begin_X8_prepareTrip
set_option maxRecDepth 20000 in
theorem ggX8_begin_X7_arrival : GoodIn wsX8_begin wsX7_arrival := goodIn_r _ [79, 80, 58, 81, 82, 83, 84, 85, 86, 87, 54, 88, 89, 90, 91, 92, 93, 63, 57, 94, 31, 32, 7, 33, 34, 95, 96, 97, 98, 99, 100, 101, 102, 103, 104, 36, 37, 38, 39, 105, 106, 107, 108, 109, 110, 111, 112, 113, 114, 115, 116, 117, 118, 119, 120, 121, 122, 123, 124, 125, 126, 127, 128, 129, 130, 131, 132, 133, 134, 68, 56, 135, 136, 137, 138, 73, 139, 140, 75, 141, 142, 143, 144, 145, 146, 147, 59, 60, 61, 148, 149, 150, 151, 152, 153, 154, 155, 156, 157, 158, 159, 160, 161, 162, 163, 164, 165, 166, 167, 168, 169, 170, 171, 172, 173, 174, 175, 176, 177, 178, 179, 180, 181, 182, 183, 184, 185, 186, 187, 188, 189, 190, 62, 191, 192, 193, 194, 195, 69, 196, 41, 42, 43, 44, 226, 227, 228, 229, 230, 231, 232, 233, 234, 235, 236, 237, 238, 239, 240, 241, 242, 216, 217, 218, 219, 220, 221, 222, 223, 224, 225, 243, 244, 245, 246, 247, 248, 249] rfl (by decide +kernel)
set_option maxRecDepth 20000 in
theorem gX8_begin_X7_arrival : GoodIn wsX8_begin (wsV RX8 222 RX7 yX7_arrival wsX7_arrival) := goodIn_app (goodIn_of _ (by decide +kernel)) ggX8_begin_X7_arrival
set_option maxRecDepth 20000 in
theorem ggX8_begin_X8_orNot : GoodIn wsX8_begin wsX8_orNot := goodIn_r _ [199, 2] rfl (by decide +kernel)
set_option maxRecDepth 20000 in
theorem gX8_begin_X8_orNot : GoodIn wsX8_begin (va_wsS RX8 207 yX8_orNot wsX8_orNot) := goodIn_app (goodIn_of _ (by decide +kernel)) ggX8_begin_X8_orNot
theorem dX8_begin_0 : decode cX8_begin 0 = .ok (.aload_n 0, 1) := by decide +kernel
theorem dX8_begin_1 : decode cX8_begin 1 = .ok (.getfield 20, 3) := by decide +kernel
theorem dX8_begin_4 : decode cX8_begin 4 = .ok (.iload_n 1, 1) := by decide +kernel
theorem dX8_begin_5 : decode cX8_begin 5 = .ok (.invokevirtual 135, 3) := by decide +kernel
theorem dX8_begin_8 : decode cX8_begin 8 = .ok (.ifCond .eq 12, 3) := by decide +kernel
theorem dX8_begin_11 : decode cX8_begin 11 = .ok (.iload_n 2, 1) := by decide +kernel
theorem dX8_begin_12 : decode cX8_begin 12 = .ok (.ifCond .lt 8, 3) := by decide +kernel
theorem dX8_begin_15 : decode cX8_begin 15 = .ok (.iload_n 2, 1) := by decide +kernel
theorem dX8_begin_16 : decode cX8_begin 16 = .ok (.iconst 1, 1) := by decide +kernel
theorem dX8_begin_17 : decode cX8_begin 17 = .ok (.if_icmp .le 5, 3) := by decide +kernel
theorem dX8_begin_20 : decode cX8_begin 20 = .ok (.iconst (-1), 1) := by decide +kernel
theorem dX8_begin_21 : decode cX8_begin 21 = .ok (.ireturn, 1) := by decide +kernel
theorem dX8_begin_22 : decode cX8_begin 22 = .ok (.aload_n 0, 1) := by decide +kernel
theorem dX8_begin_23 : decode cX8_begin 23 = .ok (.invokevirtual 186, 3) := by decide +kernel
theorem dX8_begin_26 : decode cX8_begin 26 = .ok (.bipush (-2), 2) := by decide +kernel
theorem dX8_begin_28 : decode cX8_begin 28 = .ok (.istore_n 3, 1) := by decide +kernel
theorem dX8_begin_29 : decode cX8_begin 29 = .ok (.ldc 206, 2) := by decide +kernel
theorem dX8_begin_31 : decode cX8_begin 31 = .ok (.istore 4, 2) := by decide +kernel
theorem dX8_begin_33 : decode cX8_begin 33 = .ok (.iconst 0, 1) := by decide +kernel
theorem dX8_begin_34 : decode cX8_begin 34 = .ok (.istore 5, 2) := by decide +kernel
theorem dX8_begin_36 : decode cX8_begin 36 = .ok (.iload 5, 2) := by decide +kernel
theorem dX8_begin_38 : decode cX8_begin 38 = .ok (.bipush 24, 2) := by decide +kernel
theorem dX8_begin_40 : decode cX8_begin 40 = .ok (.if_icmp .ge 57, 3) := by decide +kernel
theorem dX8_begin_43 : decode cX8_begin 43 = .ok (.aload_n 0, 1) := by decide +kernel
theorem dX8_begin_44 : decode cX8_begin 44 = .ok (.getfield 10, 3) := by decide +kernel
theorem dX8_begin_47 : decode cX8_begin 47 = .ok (.iload_n 1, 1) := by decide +kernel
theorem dX8_begin_48 : decode cX8_begin 48 = .ok (.bipush 60, 2) := by decide +kernel
theorem dX8_begin_50 : decode cX8_begin 50 = .ok (.iload 5, 2) := by decide +kernel
theorem dX8_begin_52 : decode cX8_begin 52 = .ok (.imul, 1) := by decide +kernel
theorem dX8_begin_53 : decode cX8_begin 53 = .ok (.invokevirtual 222, 3) := by decide +kernel
theorem dX8_begin_56 : decode cX8_begin 56 = .ok (.istore 6, 2) := by decide +kernel
theorem dX8_begin_58 : decode cX8_begin 58 = .ok (.iload 6, 2) := by decide +kernel
theorem dX8_begin_60 : decode cX8_begin 60 = .ok (.ldc 206, 2) := by decide +kernel
theorem dX8_begin_62 : decode cX8_begin 62 = .ok (.if_icmp .eq 29, 3) := by decide +kernel
theorem dX8_begin_65 : decode cX8_begin 65 = .ok (.iload 6, 2) := by decide +kernel
theorem dX8_begin_67 : decode cX8_begin 67 = .ok (.bipush 60, 2) := by decide +kernel
theorem dX8_begin_69 : decode cX8_begin 69 = .ok (.iload 5, 2) := by decide +kernel
theorem dX8_begin_71 : decode cX8_begin 71 = .ok (.imul, 1) := by decide +kernel
theorem dX8_begin_72 : decode cX8_begin 72 = .ok (.isub, 1) := by decide +kernel
theorem dX8_begin_73 : decode cX8_begin 73 = .ok (.iload 4, 2) := by decide +kernel
theorem dX8_begin_75 : decode cX8_begin 75 = .ok (.if_icmp .ge 16, 3) := by decide +kernel
theorem dX8_begin_78 : decode cX8_begin 78 = .ok (.iload 6, 2) := by decide +kernel
theorem dX8_begin_80 : decode cX8_begin 80 = .ok (.bipush 60, 2) := by decide +kernel
theorem dX8_begin_82 : decode cX8_begin 82 = .ok (.iload 5, 2) := by decide +kernel
theorem dX8_begin_84 : decode cX8_begin 84 = .ok (.imul, 1) := by decide +kernel
theorem dX8_begin_85 : decode cX8_begin 85 = .ok (.isub, 1) := by decide +kernel
theorem dX8_begin_86 : decode cX8_begin 86 = .ok (.istore 4, 2) := by decide +kernel
theorem dX8_begin_88 : decode cX8_begin 88 = .ok (.iload 5, 2) := by decide +kernel
theorem dX8_begin_90 : decode cX8_begin 90 = .ok (.istore_n 3, 1) := by decide +kernel
theorem dX8_begin_91 : decode cX8_begin 91 = .ok (.iinc 5 1, 3) := by decide +kernel
theorem dX8_begin_94 : decode cX8_begin 94 = .ok (.goto (-58), 3) := by decide +kernel
theorem dX8_begin_97 : decode cX8_begin 97 = .ok (.iload_n 2, 1) := by decide +kernel
theorem dX8_begin_98 : decode cX8_begin 98 = .ok (.ifCond .ne 7, 3) := by decide +kernel
theorem dX8_begin_101 : decode cX8_begin 101 = .ok (.iload_n 3, 1) := by decide +kernel
theorem dX8_begin_102 : decode cX8_begin 102 = .ok (.goto 8, 3) := by decide +kernel
theorem dX8_begin_105 : decode cX8_begin 105 = .ok (.iload 4, 2) := by decide +kernel
theorem dX8_begin_107 : decode cX8_begin 107 = .ok (.invokestatic 207, 3) := by decide +kernel
theorem dX8_begin_110 : decode cX8_begin 110 = .ok (.ireturn, 1) := by decide +kernel
set_option maxRecDepth 20000 in
theorem ggX8_two_X8_isMoment : GoodIn wsX8_two wsX8_isMoment := goodIn_r _ [12, 13, 14, 15, 16, 17, 18, 19, 20, 21, 11, 22, 213, 214, 215, 216, 217, 218, 219, 220, 221, 222, 223, 224, 225, 226, 227, 228, 246, 247, 248, 249, 250, 251, 252, 253, 254, 255] rfl (by decide +kernel)
set_option maxRecDepth 20000 in
theorem gX8_two_X8_isMoment : GoodIn wsX8_two (wsV RX8 210 RX8 yX8_isMoment wsX8_isMoment) := goodIn_app (goodIn_of _ (by decide +kernel)) ggX8_two_X8_isMoment
set_option maxRecDepth 20000 in
theorem ggX8_two_X8_prepareTrip : GoodIn wsX8_two wsX8_prepareTrip := goodIn_r _ [26, 13, 2, 1, 27, 28, 29, 30, 31, 32, 33, 17, 34, 19, 35, 36, 37, 38, 39, 40, 15, 16, 18, 41, 42, 43, 44, 45, 46, 47, 48, 49, 50, 51, 52, 53, 54, 55, 56, 57, 58, 11, 59, 60, 61, 62, 63, 64, 65, 66, 67, 68, 69, 70, 71, 72, 73, 74, 75, 76, 77, 78, 79, 80, 81, 82, 83, 84, 85, 86, 213, 214, 215, 216, 217, 218, 219, 220, 221, 222, 223, 224, 225, 226, 227, 228, 229, 230, 231, 232, 233, 234, 235, 236, 237, 238, 239, 240, 241, 242, 243, 244, 245, 246, 247, 248, 249, 250, 251, 252, 253, 254, 255, 256, 257, 258] rfl (by decide +kernel)
set_option maxRecDepth 20000 in
theorem gX8_two_X8_prepareTrip : GoodIn wsX8_two (wsV RX8 186 RX8 yX8_prepareTrip wsX8_prepareTrip) := goodIn_app (goodIn_of _ (by decide +kernel)) ggX8_two_X8_prepareTrip
set_option maxRecDepth 20000 in
theorem ggX8_two_X7_goAs : GoodIn wsX8_two wsX7_goAs := goodIn_r _ [90, 70, 75, 76, 77, 65, 78, 79, 80, 81, 82, 83, 84, 85, 86, 229, 230, 231, 232, 233, 234, 235, 236, 237, 238, 239, 240, 241, 242, 243, 244, 245, 256, 257, 258] rfl (by decide +kernel)
set_option maxRecDepth 20000 in
theorem gX8_two_X7_goAs : GoodIn wsX8_two (wsV RX8 238 RX7 yX7_goAs wsX7_goAs) := goodIn_app (goodIn_of _ (by decide +kernel)) ggX8_two_X7_goAs
set_option maxRecDepth 20000 in
theorem ggX8_two_X7_arrival : GoodIn wsX8_two wsX7_arrival := goodIn_r _ [94, 95, 69, 96, 97, 98, 99, 100, 101, 102, 65, 103, 104, 105, 106, 107, 108, 74, 68, 109, 42, 43, 17, 44, 45, 110, 111, 112, 113, 114, 115, 116, 117, 118, 119, 47, 48, 49, 50, 120, 121, 122, 123, 124, 125, 126, 127, 128, 129, 130, 131, 132, 133, 134, 135, 136, 137, 138, 139, 140, 141, 142, 143, 144, 145, 146, 147, 148, 149, 79, 67, 150, 151, 152, 153, 84, 154, 155, 86, 156, 157, 158, 159, 160, 161, 162, 70, 71, 72, 163, 164, 165, 166, 167, 168, 169, 170, 171, 172, 173, 174, 175, 176, 177, 178, 179, 180, 181, 182, 183, 184, 185, 5, 6, 7, 186, 187, 188, 189, 190, 191, 192, 193, 194, 195, 196, 197, 198, 199, 200, 201, 202, 73, 203, 204, 205, 206, 207, 80, 208, 52, 53, 54, 55, 229, 230, 231, 232, 233, 234, 235, 236, 237, 238, 239, 240, 241, 242, 243, 244, 245, 246, 247, 248, 249, 250, 251, 252, 253, 254, 255, 256, 257, 258, 259, 260, 261, 262] rfl (by decide +kernel)
set_option maxRecDepth 20000 in
theorem gX8_two_X7_arrival : GoodIn wsX8_two (wsV RX8 222 RX7 yX7_arrival wsX7_arrival) := goodIn_app (goodIn_of _ (by decide +kernel)) ggX8_two_X7_arrival
set_option maxRecDepth 20000 in
theorem ggX8_two_X8_orNot : GoodIn wsX8_two wsX8_orNot := goodIn_r _ [211, 212] rfl (by decide +kernel)
set_option maxRecDepth 20000 in
theorem gX8_two_X8_orNot : GoodIn wsX8_two (va_wsS RX8 207 yX8_orNot wsX8_orNot) := goodIn_app (goodIn_of _ (by decide +kernel)) ggX8_two_X8_orNot
theorem dX8_two_0 : decode cX8_two 0 = .ok (.aload_n 0, 1) := by decide +kernel
theorem dX8_two_1 : decode cX8_two 1 = .ok (.iload_n 1, 1) := by decide +kernel
theorem dX8_two_2 : decode cX8_two 2 = .ok (.invokevirtual 210, 3) := by decide +kernel
theorem dX8_two_5 : decode cX8_two 5 = .ok (.ifCond .eq 12, 3) := by decide +kernel
theorem dX8_two_8 : decode cX8_two 8 = .ok (.iload_n 2, 1) := by decide +kernel
theorem dX8_two_9 : decode cX8_two 9 = .ok (.ifCond .lt 8, 3) := by decide +kernel
theorem dX8_two_12 : decode cX8_two 12 = .ok (.iload_n 2, 1) := by decide +kernel
theorem dX8_two_13 : decode cX8_two 13 = .ok (.iconst 1, 1) := by decide +kernel
theorem dX8_two_14 : decode cX8_two 14 = .ok (.if_icmp .le 5, 3) := by decide +kernel
theorem dX8_two_17 : decode cX8_two 17 = .ok (.iconst (-1), 1) := by decide +kernel
theorem dX8_two_18 : decode cX8_two 18 = .ok (.ireturn, 1) := by decide +kernel
theorem dX8_two_19 : decode cX8_two 19 = .ok (.aload_n 0, 1) := by decide +kernel
theorem dX8_two_20 : decode cX8_two 20 = .ok (.invokevirtual 186, 3) := by decide +kernel
theorem dX8_two_23 : decode cX8_two 23 = .ok (.aload_n 0, 1) := by decide +kernel
theorem dX8_two_24 : decode cX8_two 24 = .ok (.getfield 10, 3) := by decide +kernel
theorem dX8_two_27 : decode cX8_two 27 = .ok (.iload_n 2, 1) := by decide +kernel
theorem dX8_two_28 : decode cX8_two 28 = .ok (.ifCond .ne 7, 3) := by decide +kernel
theorem dX8_two_31 : decode cX8_two 31 = .ok (.iconst 1, 1) := by decide +kernel
theorem dX8_two_32 : decode cX8_two 32 = .ok (.goto 4, 3) := by decide +kernel
theorem dX8_two_35 : decode cX8_two 35 = .ok (.iconst 2, 1) := by decide +kernel
theorem dX8_two_36 : decode cX8_two 36 = .ok (.invokevirtual 238, 3) := by decide +kernel
theorem dX8_two_39 : decode cX8_two 39 = .ok (.aload_n 0, 1) := by decide +kernel
theorem dX8_two_40 : decode cX8_two 40 = .ok (.getfield 10, 3) := by decide +kernel
theorem dX8_two_43 : decode cX8_two 43 = .ok (.iload_n 1, 1) := by decide +kernel
theorem dX8_two_44 : decode cX8_two 44 = .ok (.sipush 10000, 3) := by decide +kernel
theorem dX8_two_47 : decode cX8_two 47 = .ok (.idiv, 1) := by decide +kernel
theorem dX8_two_48 : decode cX8_two 48 = .ok (.iload_n 1, 1) := by decide +kernel
theorem dX8_two_49 : decode cX8_two 49 = .ok (.sipush 10000, 3) := by decide +kernel
theorem dX8_two_52 : decode cX8_two 52 = .ok (.irem, 1) := by decide +kernel
theorem dX8_two_53 : decode cX8_two 53 = .ok (.invokevirtual 222, 3) := by decide +kernel
theorem dX8_two_56 : decode cX8_two 56 = .ok (.istore_n 3, 1) := by decide +kernel
theorem dX8_two_57 : decode cX8_two 57 = .ok (.iload_n 2, 1) := by decide +kernel
theorem dX8_two_58 : decode cX8_two 58 = .ok (.ifCond .ne 40, 3) := by decide +kernel
theorem dX8_two_61 : decode cX8_two 61 = .ok (.aload_n 0, 1) := by decide +kernel
theorem dX8_two_62 : decode cX8_two 62 = .ok (.getfield 10, 3) := by decide +kernel
theorem dX8_two_65 : decode cX8_two 65 = .ok (.aload_n 0, 1) := by decide +kernel
theorem dX8_two_66 : decode cX8_two 66 = .ok (.getfield 28, 3) := by decide +kernel
theorem dX8_two_69 : decode cX8_two 69 = .ok (.iconst 5, 1) := by decide +kernel
theorem dX8_two_70 : decode cX8_two 70 = .ok (.iaload, 1) := by decide +kernel
theorem dX8_two_71 : decode cX8_two 71 = .ok (.iconst 1, 1) := by decide +kernel
theorem dX8_two_72 : decode cX8_two 72 = .ok (.iadd, 1) := by decide +kernel
theorem dX8_two_73 : decode cX8_two 73 = .ok (.putfield 216, 3) := by decide +kernel
theorem dX8_two_76 : decode cX8_two 76 = .ok (.iload_n 3, 1) := by decide +kernel
theorem dX8_two_77 : decode cX8_two 77 = .ok (.aload_n 0, 1) := by decide +kernel
theorem dX8_two_78 : decode cX8_two 78 = .ok (.getfield 10, 3) := by decide +kernel
theorem dX8_two_81 : decode cX8_two 81 = .ok (.iload_n 1, 1) := by decide +kernel
theorem dX8_two_82 : decode cX8_two 82 = .ok (.sipush 10000, 3) := by decide +kernel
theorem dX8_two_85 : decode cX8_two 85 = .ok (.idiv, 1) := by decide +kernel
theorem dX8_two_86 : decode cX8_two 86 = .ok (.iload_n 1, 1) := by decide +kernel
theorem dX8_two_87 : decode cX8_two 87 = .ok (.sipush 10000, 3) := by decide +kernel
theorem dX8_two_90 : decode cX8_two 90 = .ok (.irem, 1) := by decide +kernel
theorem dX8_two_91 : decode cX8_two 91 = .ok (.invokevirtual 222, 3) := by decide +kernel
theorem dX8_two_94 : decode cX8_two 94 = .ok (.invokestatic 241, 3) := by decide +kernel
theorem dX8_two_97 : decode cX8_two 97 = .ok (.istore_n 3, 1) := by decide +kernel
theorem dX8_two_98 : decode cX8_two 98 = .ok (.iload_n 3, 1) := by decide +kernel
theorem dX8_two_99 : decode cX8_two 99 = .ok (.invokestatic 207, 3) := by decide +kernel
theorem dX8_two_102 : decode cX8_two 102 = .ok (.ireturn, 1) := by decide +kernel
set_option maxRecDepth 20000 in
theorem ggX8_book_X8_shelfAt : GoodIn wsX8_book wsX8_shelfAt := goodIn_r _ [11, 12, 229, 230, 231, 232, 233, 234, 235, 236, 237, 238, 239, 240, 241, 242, 243, 244] rfl (by decide +kernel)
set_option maxRecDepth 20000 in
theorem gX8_book_X8_shelfAt : GoodIn wsX8_book (wsV RX8 87 RX8 yX8_shelfAt wsX8_shelfAt) := goodIn_app (goodIn_of _ (by decide +kernel)) ggX8_book_X8_shelfAt
set_option maxRecDepth 20000 in
theorem ggX8_book_X8_isMinute : GoodIn wsX8_book wsX8_isMinute := goodIn_r _ [15] rfl (by decide +kernel)
set_option maxRecDepth 20000 in
theorem gX8_book_X8_isMinute : GoodIn wsX8_book (va_wsS RX8 199 yX8_isMinute wsX8_isMinute) := goodIn_app (goodIn_of _ (by decide +kernel)) ggX8_book_X8_isMinute
set_option maxRecDepth 20000 in
theorem ggX8_book_X5_holdsNothing : GoodIn wsX8_book wsX5_holdsNothing := goodIn_r _ [20, 21, 255, 256, 257, 258] rfl (by decide +kernel)
set_option maxRecDepth 20000 in
theorem gX8_book_X5_holdsNothing : GoodIn wsX8_book (wsV RX8 91 RX5 yX5_holdsNothing wsX5_holdsNothing) := goodIn_app (goodIn_of _ (by decide +kernel)) ggX8_book_X5_holdsNothing
set_option maxRecDepth 20000 in
theorem ggX8_book_X5_holdsRowOf : GoodIn wsX8_book wsX5_holdsRowOf := goodIn_r _ [25, 21, 26, 27, 28, 19, 29, 255, 256, 257, 258] rfl (by decide +kernel)
set_option maxRecDepth 20000 in
theorem gX8_book_X5_holdsRowOf : GoodIn wsX8_book (wsV RX8 95 RX5 yX5_holdsRowOf wsX5_holdsRowOf) := goodIn_app (goodIn_of _ (by decide +kernel)) ggX8_book_X5_holdsRowOf
set_option maxRecDepth 20000 in
theorem ggX8_book_X5_holdsCells : GoodIn wsX8_book wsX5_holdsCells := goodIn_r _ [33, 34, 26, 27, 28, 19, 29, 21, 255, 256, 257, 258] rfl (by decide +kernel)
set_option maxRecDepth 20000 in
theorem gX8_book_X5_holdsCells : GoodIn wsX8_book (wsV RX8 99 RX5 yX5_holdsCells wsX5_holdsCells) := goodIn_app (goodIn_of _ (by decide +kernel)) ggX8_book_X5_holdsCells
set_option maxRecDepth 20000 in
theorem ggX8_book_X8_prepareTrip : GoodIn wsX8_book wsX8_prepareTrip := goodIn_r _ [38, 2, 39, 6, 40, 41, 42, 43, 44, 45, 46, 47, 48, 49, 50, 51, 52, 53, 54, 55, 56, 57, 58, 59, 60, 61, 62, 63, 64, 65, 66, 67, 68, 69, 70, 71, 72, 73, 74, 75, 76, 10, 77, 5, 78, 79, 80, 81, 82, 83, 84, 85, 86, 87, 88, 89, 90, 91, 92, 93, 94, 95, 96, 97, 98, 99, 100, 101, 102, 103, 229, 230, 231, 232, 233, 234, 235, 236, 237, 238, 239, 240, 241, 242, 243, 244, 259, 260, 261, 262, 263, 264, 265, 266, 267, 268, 269, 270, 271, 272, 273, 274, 275, 245, 246, 247, 248, 249, 250, 251, 252, 253, 254, 276, 277, 278] rfl (by decide +kernel)
set_option maxRecDepth 20000 in
theorem gX8_book_X8_prepareTrip : GoodIn wsX8_book (wsV RX8 186 RX8 yX8_prepareTrip wsX8_prepareTrip) := goodIn_app (goodIn_of _ (by decide +kernel)) ggX8_book_X8_prepareTrip
set_option maxRecDepth 20000 in
theorem ggX8_book_X8_lawText : GoodIn wsX8_book wsX8_lawText := goodIn_r _ [77, 5, 78, 229, 230, 231, 232, 233, 234, 235, 236, 237, 238, 239, 240, 241, 242, 243, 244] rfl (by decide +kernel)
set_option maxRecDepth 20000 in
theorem gX8_book_X8_lawText : GoodIn wsX8_book (wsV RX8 246 RX8 yX8_lawText wsX8_lawText) := goodIn_app (goodIn_of _ (by decide +kernel)) ggX8_book_X8_lawText
set_option maxRecDepth 20000 in
theorem ggX8_book_X7_judgeBy : GoodIn wsX8_book wsX7_judgeBy := goodIn_r _ [107, 84, 92, 93, 94, 82, 95, 96, 97, 98, 99, 100, 101, 102, 103, 259, 260, 261, 262, 263, 264, 265, 266, 267, 268, 269, 270, 271, 272, 273, 274, 275, 276, 277, 278] rfl (by decide +kernel)
set_option maxRecDepth 20000 in
theorem gX8_book_X7_judgeBy : GoodIn wsX8_book (wsV RX8 250 RX7 yX7_judgeBy wsX7_judgeBy) := goodIn_app (goodIn_of _ (by decide +kernel)) ggX8_book_X7_judgeBy
set_option maxRecDepth 20000 in
theorem ggX8_book_X7_offFrom : GoodIn wsX8_book wsX7_offFrom := goodIn_r _ [111, 112, 113, 114, 115, 116, 117, 118, 119, 120, 121, 122, 123, 124, 125, 126, 127, 128, 82, 129, 130, 131, 132, 60, 61, 47, 62, 63, 133, 134, 135, 136, 137, 138, 139, 140, 141, 142, 143, 144, 145, 146, 147, 148, 149, 150, 151, 152, 153, 154, 155, 156, 157, 96, 84, 158, 159, 160, 161, 101, 162, 163, 103, 164, 165, 166, 167, 168, 169, 170, 87, 88, 89, 171, 172, 173, 174, 175, 176, 65, 66, 67, 68, 177, 178, 179, 180, 181, 182, 183, 184, 185, 186, 187, 188, 189, 190, 191, 192, 193, 194, 195, 196, 197, 198, 199, 200, 201, 202, 203, 204, 205, 206, 207, 208, 209, 210, 211, 212, 213, 214, 215, 216, 217, 218, 90, 219, 220, 221, 222, 223, 224, 225, 19, 226, 227, 228, 31, 32, 33, 34, 26, 27, 28, 29, 21, 259, 260, 261, 262, 263, 264, 265, 266, 267, 268, 269, 270, 271, 272, 273, 274, 275, 245, 246, 247, 248, 249, 250, 251, 252, 253, 254, 276, 277, 278, 279, 280, 281, 282, 255, 256, 257, 258] rfl (by decide +kernel)
set_option maxRecDepth 20000 in
theorem gX8_book_X7_offFrom : GoodIn wsX8_book (wsV RX8 254 RX7 yX7_offFrom wsX7_offFrom) := goodIn_app (goodIn_of _ (by decide +kernel)) ggX8_book_X7_offFrom
theorem dX8_book_0 : decode cX8_book 0 = .ok (.aload_n 0, 1) := by decide +kernel
theorem dX8_book_1 : decode cX8_book 1 = .ok (.iload_n 1, 1) := by decide +kernel
theorem dX8_book_2 : decode cX8_book 2 = .ok (.invokevirtual 87, 3) := by decide +kernel
theorem dX8_book_5 : decode cX8_book 5 = .ok (.astore 4, 2) := by decide +kernel
theorem dX8_book_7 : decode cX8_book 7 = .ok (.aload 4, 2) := by decide +kernel
theorem dX8_book_9 : decode cX8_book 9 = .ok (.ifnull 19, 3) := by decide +kernel
theorem dX8_book_12 : decode cX8_book 12 = .ok (.iload_n 2, 1) := by decide +kernel
theorem dX8_book_13 : decode cX8_book 13 = .ok (.invokestatic 199, 3) := by decide +kernel
theorem dX8_book_16 : decode cX8_book 16 = .ok (.ifCond .eq 12, 3) := by decide +kernel
theorem dX8_book_19 : decode cX8_book 19 = .ok (.iload_n 3, 1) := by decide +kernel
theorem dX8_book_20 : decode cX8_book 20 = .ok (.ifCond .lt 8, 3) := by decide +kernel
theorem dX8_book_23 : decode cX8_book 23 = .ok (.iload_n 3, 1) := by decide +kernel
theorem dX8_book_24 : decode cX8_book 24 = .ok (.iconst 1, 1) := by decide +kernel
theorem dX8_book_25 : decode cX8_book 25 = .ok (.if_icmp .le 6, 3) := by decide +kernel
theorem dX8_book_28 : decode cX8_book 28 = .ok (.ldc 120, 2) := by decide +kernel
theorem dX8_book_30 : decode cX8_book 30 = .ok (.ireturn, 1) := by decide +kernel
theorem dX8_book_31 : decode cX8_book 31 = .ok (.aload 4, 2) := by decide +kernel
theorem dX8_book_33 : decode cX8_book 33 = .ok (.invokevirtual 91, 3) := by decide +kernel
theorem dX8_book_36 : decode cX8_book 36 = .ok (.ifCond .eq 6, 3) := by decide +kernel
theorem dX8_book_39 : decode cX8_book 39 = .ok (.bipush (-11), 2) := by decide +kernel
theorem dX8_book_41 : decode cX8_book 41 = .ok (.ireturn, 1) := by decide +kernel
theorem dX8_book_42 : decode cX8_book 42 = .ok (.aload 4, 2) := by decide +kernel
theorem dX8_book_44 : decode cX8_book 44 = .ok (.iconst 2, 1) := by decide +kernel
theorem dX8_book_45 : decode cX8_book 45 = .ok (.invokevirtual 95, 3) := by decide +kernel
theorem dX8_book_48 : decode cX8_book 48 = .ok (.ifCond .ne 6, 3) := by decide +kernel
theorem dX8_book_51 : decode cX8_book 51 = .ok (.bipush (-12), 2) := by decide +kernel
theorem dX8_book_53 : decode cX8_book 53 = .ok (.ireturn, 1) := by decide +kernel
theorem dX8_book_54 : decode cX8_book 54 = .ok (.aload 4, 2) := by decide +kernel
theorem dX8_book_56 : decode cX8_book 56 = .ok (.iconst 0, 1) := by decide +kernel
theorem dX8_book_57 : decode cX8_book 57 = .ok (.aload_n 0, 1) := by decide +kernel
theorem dX8_book_58 : decode cX8_book 58 = .ok (.getfield 20, 3) := by decide +kernel
theorem dX8_book_61 : decode cX8_book 61 = .ok (.getfield 231, 3) := by decide +kernel
theorem dX8_book_64 : decode cX8_book 64 = .ok (.invokevirtual 99, 3) := by decide +kernel
theorem dX8_book_67 : decode cX8_book 67 = .ok (.ifCond .ne 6, 3) := by decide +kernel
theorem dX8_book_70 : decode cX8_book 70 = .ok (.bipush (-13), 2) := by decide +kernel
theorem dX8_book_72 : decode cX8_book 72 = .ok (.ireturn, 1) := by decide +kernel
theorem dX8_book_73 : decode cX8_book 73 = .ok (.aload_n 0, 1) := by decide +kernel
theorem dX8_book_74 : decode cX8_book 74 = .ok (.invokevirtual 186, 3) := by decide +kernel
theorem dX8_book_77 : decode cX8_book 77 = .ok (.iconst (-1), 1) := by decide +kernel
theorem dX8_book_78 : decode cX8_book 78 = .ok (.istore 5, 2) := by decide +kernel
theorem dX8_book_80 : decode cX8_book 80 = .ok (.ldc 206, 2) := by decide +kernel
theorem dX8_book_82 : decode cX8_book 82 = .ok (.istore 6, 2) := by decide +kernel
theorem dX8_book_84 : decode cX8_book 84 = .ok (.iconst (-1), 1) := by decide +kernel
theorem dX8_book_85 : decode cX8_book 85 = .ok (.istore 7, 2) := by decide +kernel
theorem dX8_book_87 : decode cX8_book 87 = .ok (.iload 7, 2) := by decide +kernel
theorem dX8_book_89 : decode cX8_book 89 = .ok (.aload_n 0, 1) := by decide +kernel
theorem dX8_book_90 : decode cX8_book 90 = .ok (.getfield 169, 3) := by decide +kernel
theorem dX8_book_93 : decode cX8_book 93 = .ok (.if_icmp .ge 49, 3) := by decide +kernel
theorem dX8_book_96 : decode cX8_book 96 = .ok (.aload_n 0, 1) := by decide +kernel
theorem dX8_book_97 : decode cX8_book 97 = .ok (.getfield 10, 3) := by decide +kernel
theorem dX8_book_100 : decode cX8_book 100 = .ok (.aload_n 0, 1) := by decide +kernel
theorem dX8_book_101 : decode cX8_book 101 = .ok (.iload 7, 2) := by decide +kernel
theorem dX8_book_103 : decode cX8_book 103 = .ok (.invokevirtual 246, 3) := by decide +kernel
theorem dX8_book_106 : decode cX8_book 106 = .ok (.invokevirtual 250, 3) := by decide +kernel
theorem dX8_book_109 : decode cX8_book 109 = .ok (.aload_n 0, 1) := by decide +kernel
theorem dX8_book_110 : decode cX8_book 110 = .ok (.getfield 10, 3) := by decide +kernel
theorem dX8_book_113 : decode cX8_book 113 = .ok (.aload 4, 2) := by decide +kernel
theorem dX8_book_115 : decode cX8_book 115 = .ok (.iload_n 2, 1) := by decide +kernel
theorem dX8_book_116 : decode cX8_book 116 = .ok (.invokevirtual 254, 3) := by decide +kernel
theorem dX8_book_119 : decode cX8_book 119 = .ok (.istore 8, 2) := by decide +kernel
theorem dX8_book_121 : decode cX8_book 121 = .ok (.iload 8, 2) := by decide +kernel
theorem dX8_book_123 : decode cX8_book 123 = .ok (.iload 6, 2) := by decide +kernel
theorem dX8_book_125 : decode cX8_book 125 = .ok (.if_icmp .ge 11, 3) := by decide +kernel
theorem dX8_book_128 : decode cX8_book 128 = .ok (.iload 8, 2) := by decide +kernel
theorem dX8_book_130 : decode cX8_book 130 = .ok (.istore 6, 2) := by decide +kernel
theorem dX8_book_132 : decode cX8_book 132 = .ok (.iload 7, 2) := by decide +kernel
theorem dX8_book_134 : decode cX8_book 134 = .ok (.istore 5, 2) := by decide +kernel
theorem dX8_book_136 : decode cX8_book 136 = .ok (.iinc 7 1, 3) := by decide +kernel
theorem dX8_book_139 : decode cX8_book 139 = .ok (.goto (-52), 3) := by decide +kernel
theorem dX8_book_142 : decode cX8_book 142 = .ok (.iload_n 3, 1) := by decide +kernel
theorem dX8_book_143 : decode cX8_book 143 = .ok (.ifCond .ne 8, 3) := by decide +kernel
theorem dX8_book_146 : decode cX8_book 146 = .ok (.iload 5, 2) := by decide +kernel
theorem dX8_book_148 : decode cX8_book 148 = .ok (.goto 5, 3) := by decide +kernel
theorem dX8_book_151 : decode cX8_book 151 = .ok (.iload 6, 2) := by decide +kernel
theorem dX8_book_153 : decode cX8_book 153 = .ok (.ireturn, 1) := by decide +kernel
set_option maxRecDepth 20000 in
theorem ggX8_safe_X8_isMoment : GoodIn wsX8_safe wsX8_isMoment := goodIn_r _ [10, 1, 11, 12, 13, 14, 15, 16, 17, 18, 9, 19, 213, 214, 215, 216, 217, 218, 219, 220, 221, 222, 223, 224, 225, 226, 227, 228, 246, 247, 248, 249, 250, 251, 252, 253, 254, 255] rfl (by decide +kernel)
set_option maxRecDepth 20000 in
theorem gX8_safe_X8_isMoment : GoodIn wsX8_safe (wsV RX8 210 RX8 yX8_isMoment wsX8_isMoment) := goodIn_app (goodIn_of _ (by decide +kernel)) ggX8_safe_X8_isMoment
set_option maxRecDepth 20000 in
theorem ggX8_safe_X8_isSeeds : GoodIn wsX8_safe wsX8_isSeeds := goodIn_r _ [22] rfl (by decide +kernel)
set_option maxRecDepth 20000 in
theorem gX8_safe_X8_isSeeds : GoodIn wsX8_safe (va_wsS RX8 213 yX8_isSeeds wsX8_isSeeds) := goodIn_app (goodIn_of _ (by decide +kernel)) ggX8_safe_X8_isSeeds
set_option maxRecDepth 20000 in
theorem ggX8_safe_X8_prepareTrip : GoodIn wsX8_safe wsX8_prepareTrip := goodIn_r _ [26, 1, 4, 2, 27, 28, 29, 30, 31, 32, 33, 14, 34, 16, 35, 36, 37, 38, 39, 40, 12, 13, 15, 41, 42, 43, 44, 45, 46, 47, 48, 49, 50, 51, 52, 53, 54, 55, 56, 57, 58, 9, 59, 60, 61, 62, 63, 64, 65, 66, 67, 68, 69, 70, 71, 72, 73, 74, 75, 76, 77, 78, 79, 80, 81, 82, 83, 84, 85, 86, 213, 214, 215, 216, 217, 218, 219, 220, 221, 222, 223, 224, 225, 226, 227, 228, 229, 230, 231, 232, 233, 234, 235, 236, 237, 238, 239, 240, 241, 242, 243, 244, 245, 246, 247, 248, 249, 250, 251, 252, 253, 254, 255, 256, 257, 258] rfl (by decide +kernel)
set_option maxRecDepth 20000 in
theorem gX8_safe_X8_prepareTrip : GoodIn wsX8_safe (wsV RX8 186 RX8 yX8_prepareTrip wsX8_prepareTrip) := goodIn_app (goodIn_of _ (by decide +kernel)) ggX8_safe_X8_prepareTrip
set_option maxRecDepth 20000 in
theorem ggX8_safe_X3_hasDanger : GoodIn wsX8_safe wsX3_hasDanger := goodIn_r _ [90, 35, 91, 92, 93, 14, 94, 95, 246, 247, 248, 249, 250, 251, 252, 253, 254, 255] rfl (by decide +kernel)
set_option maxRecDepth 20000 in
theorem gX8_safe_X3_hasDanger : GoodIn wsX8_safe (wsV RX8 258 RX3 yX3_hasDanger wsX3_hasDanger) := goodIn_app (goodIn_of _ (by decide +kernel)) ggX8_safe_X3_hasDanger
set_option maxRecDepth 20000 in
theorem ggX8_safe_X7_arrival : GoodIn wsX8_safe wsX7_arrival := goodIn_r _ [99, 100, 69, 101, 102, 103, 104, 105, 106, 107, 65, 108, 109, 110, 111, 112, 113, 74, 68, 114, 42, 43, 14, 44, 45, 115, 92, 93, 94, 95, 116, 117, 118, 119, 120, 47, 48, 49, 50, 121, 122, 123, 124, 125, 126, 127, 128, 129, 130, 131, 132, 133, 134, 135, 136, 137, 138, 139, 140, 141, 142, 143, 144, 145, 146, 147, 148, 149, 150, 79, 67, 151, 152, 153, 154, 84, 155, 156, 86, 157, 158, 159, 160, 161, 162, 163, 70, 71, 72, 164, 165, 166, 167, 168, 169, 170, 171, 172, 173, 174, 175, 176, 177, 178, 179, 180, 181, 182, 183, 184, 185, 186, 187, 188, 189, 190, 191, 192, 193, 194, 195, 196, 197, 198, 199, 200, 201, 202, 203, 204, 205, 206, 73, 207, 208, 209, 210, 211, 80, 212, 52, 53, 54, 55, 229, 230, 231, 232, 233, 234, 235, 236, 237, 238, 239, 240, 241, 242, 243, 244, 245, 246, 247, 248, 249, 250, 251, 252, 253, 254, 255, 256, 257, 258, 259, 260, 261, 262] rfl (by decide +kernel)
set_option maxRecDepth 20000 in
theorem gX8_safe_X7_arrival : GoodIn wsX8_safe (wsV RX8 222 RX7 yX7_arrival wsX7_arrival) := goodIn_app (goodIn_of _ (by decide +kernel)) ggX8_safe_X7_arrival
theorem dX8_safe_0 : decode cX8_safe 0 = .ok (.aload_n 0, 1) := by decide +kernel
theorem dX8_safe_1 : decode cX8_safe 1 = .ok (.iload_n 1, 1) := by decide +kernel
theorem dX8_safe_2 : decode cX8_safe 2 = .ok (.invokevirtual 210, 3) := by decide +kernel
theorem dX8_safe_5 : decode cX8_safe 5 = .ok (.ifCond .eq 10, 3) := by decide +kernel
theorem dX8_safe_8 : decode cX8_safe 8 = .ok (.iload_n 2, 1) := by decide +kernel
theorem dX8_safe_9 : decode cX8_safe 9 = .ok (.invokestatic 213, 3) := by decide +kernel
theorem dX8_safe_12 : decode cX8_safe 12 = .ok (.ifCond .ne 5, 3) := by decide +kernel
theorem dX8_safe_15 : decode cX8_safe 15 = .ok (.iconst (-1), 1) := by decide +kernel
theorem dX8_safe_16 : decode cX8_safe 16 = .ok (.ireturn, 1) := by decide +kernel
theorem dX8_safe_17 : decode cX8_safe 17 = .ok (.aload_n 0, 1) := by decide +kernel
theorem dX8_safe_18 : decode cX8_safe 18 = .ok (.invokevirtual 186, 3) := by decide +kernel
theorem dX8_safe_21 : decode cX8_safe 21 = .ok (.iconst 0, 1) := by decide +kernel
theorem dX8_safe_22 : decode cX8_safe 22 = .ok (.istore_n 3, 1) := by decide +kernel
theorem dX8_safe_23 : decode cX8_safe 23 = .ok (.iload_n 3, 1) := by decide +kernel
theorem dX8_safe_24 : decode cX8_safe 24 = .ok (.bipush 99, 2) := by decide +kernel
theorem dX8_safe_26 : decode cX8_safe 26 = .ok (.if_icmp .gt 114, 3) := by decide +kernel
theorem dX8_safe_29 : decode cX8_safe 29 = .ok (.iload_n 3, 1) := by decide +kernel
theorem dX8_safe_30 : decode cX8_safe 30 = .ok (.ifCond .le 17, 3) := by decide +kernel
theorem dX8_safe_33 : decode cX8_safe 33 = .ok (.aload_n 0, 1) := by decide +kernel
theorem dX8_safe_34 : decode cX8_safe 34 = .ok (.getfield 20, 3) := by decide +kernel
theorem dX8_safe_37 : decode cX8_safe 37 = .ok (.iload_n 3, 1) := by decide +kernel
theorem dX8_safe_38 : decode cX8_safe 38 = .ok (.invokevirtual 258, 3) := by decide +kernel
theorem dX8_safe_41 : decode cX8_safe 41 = .ok (.ifCond .ne 6, 3) := by decide +kernel
theorem dX8_safe_44 : decode cX8_safe 44 = .ok (.goto 90, 3) := by decide +kernel
theorem dX8_safe_47 : decode cX8_safe 47 = .ok (.aload_n 0, 1) := by decide +kernel
theorem dX8_safe_48 : decode cX8_safe 48 = .ok (.getfield 10, 3) := by decide +kernel
theorem dX8_safe_51 : decode cX8_safe 51 = .ok (.iload_n 3, 1) := by decide +kernel
theorem dX8_safe_52 : decode cX8_safe 52 = .ok (.putfield 261, 3) := by decide +kernel
theorem dX8_safe_55 : decode cX8_safe 55 = .ok (.iconst 1, 1) := by decide +kernel
theorem dX8_safe_56 : decode cX8_safe 56 = .ok (.istore 4, 2) := by decide +kernel
theorem dX8_safe_58 : decode cX8_safe 58 = .ok (.iconst 0, 1) := by decide +kernel
theorem dX8_safe_59 : decode cX8_safe 59 = .ok (.istore 5, 2) := by decide +kernel
theorem dX8_safe_61 : decode cX8_safe 61 = .ok (.iload 5, 2) := by decide +kernel
theorem dX8_safe_63 : decode cX8_safe 63 = .ok (.iload_n 2, 1) := by decide +kernel
theorem dX8_safe_64 : decode cX8_safe 64 = .ok (.if_icmp .ge 63, 3) := by decide +kernel
theorem dX8_safe_67 : decode cX8_safe 67 = .ok (.iload 4, 2) := by decide +kernel
theorem dX8_safe_69 : decode cX8_safe 69 = .ok (.ifCond .eq 58, 3) := by decide +kernel
theorem dX8_safe_72 : decode cX8_safe 72 = .ok (.aload_n 0, 1) := by decide +kernel
theorem dX8_safe_73 : decode cX8_safe 73 = .ok (.getfield 10, 3) := by decide +kernel
theorem dX8_safe_76 : decode cX8_safe 76 = .ok (.aload_n 0, 1) := by decide +kernel
theorem dX8_safe_77 : decode cX8_safe 77 = .ok (.getfield 28, 3) := by decide +kernel
theorem dX8_safe_80 : decode cX8_safe 80 = .ok (.iconst 5, 1) := by decide +kernel
theorem dX8_safe_81 : decode cX8_safe 81 = .ok (.iaload, 1) := by decide +kernel
theorem dX8_safe_82 : decode cX8_safe 82 = .ok (.iload 5, 2) := by decide +kernel
theorem dX8_safe_84 : decode cX8_safe 84 = .ok (.iadd, 1) := by decide +kernel
theorem dX8_safe_85 : decode cX8_safe 85 = .ok (.putfield 216, 3) := by decide +kernel
theorem dX8_safe_88 : decode cX8_safe 88 = .ok (.aload_n 0, 1) := by decide +kernel
theorem dX8_safe_89 : decode cX8_safe 89 = .ok (.getfield 10, 3) := by decide +kernel
theorem dX8_safe_92 : decode cX8_safe 92 = .ok (.iload_n 1, 1) := by decide +kernel
theorem dX8_safe_93 : decode cX8_safe 93 = .ok (.sipush 10000, 3) := by decide +kernel
theorem dX8_safe_96 : decode cX8_safe 96 = .ok (.idiv, 1) := by decide +kernel
theorem dX8_safe_97 : decode cX8_safe 97 = .ok (.iload_n 1, 1) := by decide +kernel
theorem dX8_safe_98 : decode cX8_safe 98 = .ok (.sipush 10000, 3) := by decide +kernel
theorem dX8_safe_101 : decode cX8_safe 101 = .ok (.irem, 1) := by decide +kernel
theorem dX8_safe_102 : decode cX8_safe 102 = .ok (.invokevirtual 222, 3) := by decide +kernel
theorem dX8_safe_105 : decode cX8_safe 105 = .ok (.aload_n 0, 1) := by decide +kernel
theorem dX8_safe_106 : decode cX8_safe 106 = .ok (.getfield 28, 3) := by decide +kernel
theorem dX8_safe_109 : decode cX8_safe 109 = .ok (.iconst 1, 1) := by decide +kernel
theorem dX8_safe_110 : decode cX8_safe 110 = .ok (.iaload, 1) := by decide +kernel
theorem dX8_safe_111 : decode cX8_safe 111 = .ok (.if_icmp .gt 7, 3) := by decide +kernel
theorem dX8_safe_114 : decode cX8_safe 114 = .ok (.iconst 1, 1) := by decide +kernel
theorem dX8_safe_115 : decode cX8_safe 115 = .ok (.goto 4, 3) := by decide +kernel
theorem dX8_safe_118 : decode cX8_safe 118 = .ok (.iconst 0, 1) := by decide +kernel
theorem dX8_safe_119 : decode cX8_safe 119 = .ok (.istore 4, 2) := by decide +kernel
theorem dX8_safe_121 : decode cX8_safe 121 = .ok (.iinc 5 1, 3) := by decide +kernel
theorem dX8_safe_124 : decode cX8_safe 124 = .ok (.goto (-63), 3) := by decide +kernel
theorem dX8_safe_127 : decode cX8_safe 127 = .ok (.iload 4, 2) := by decide +kernel
theorem dX8_safe_129 : decode cX8_safe 129 = .ok (.ifCond .eq 5, 3) := by decide +kernel
theorem dX8_safe_132 : decode cX8_safe 132 = .ok (.iload_n 3, 1) := by decide +kernel
theorem dX8_safe_133 : decode cX8_safe 133 = .ok (.ireturn, 1) := by decide +kernel
theorem dX8_safe_134 : decode cX8_safe 134 = .ok (.iinc 3 1, 3) := by decide +kernel
theorem dX8_safe_137 : decode cX8_safe 137 = .ok (.goto (-114), 3) := by decide +kernel
theorem dX8_safe_140 : decode cX8_safe 140 = .ok (.bipush (-2), 2) := by decide +kernel
theorem dX8_safe_142 : decode cX8_safe 142 = .ok (.ireturn, 1) := by decide +kernel
set_option maxRecDepth 20000 in
theorem ggX8_never_X3_measureTo : GoodIn wsX8_never wsX3_measureTo := goodIn_r _ [8, 9, 10, 11, 12, 13, 14, 15, 16, 17, 7, 18, 19, 20, 21, 22, 23, 24, 25, 26, 27, 28, 29, 30, 31, 32, 33, 51, 52, 53, 54, 55, 56, 57, 58, 59, 60] rfl (by decide +kernel)
set_option maxRecDepth 20000 in
theorem gX8_never_X3_measureTo : GoodIn wsX8_never (wsV RX8 195 RX3 yX3_measureTo wsX3_measureTo) := goodIn_app (goodIn_of _ (by decide +kernel)) ggX8_never_X3_measureTo
set_option maxRecDepth 20000 in
theorem ggX8_never_X3_hasPlace : GoodIn wsX8_never wsX3_hasPlace := goodIn_r _ [18, 9, 51, 52, 53, 54, 55, 56, 57, 58, 59, 60] rfl (by decide +kernel)
set_option maxRecDepth 20000 in
theorem gX8_never_X3_hasPlace : GoodIn wsX8_never (wsV RX8 135 RX3 yX3_hasPlace wsX3_hasPlace) := goodIn_app (goodIn_of _ (by decide +kernel)) ggX8_never_X3_hasPlace
theorem dX8_never_0 : decode cX8_never 0 = .ok (.aload_n 0, 1) := by decide +kernel
theorem dX8_never_1 : decode cX8_never 1 = .ok (.getfield 20, 3) := by decide +kernel
theorem dX8_never_4 : decode cX8_never 4 = .ok (.aload_n 0, 1) := by decide +kernel
theorem dX8_never_5 : decode cX8_never 5 = .ok (.getfield 28, 3) := by decide +kernel
theorem dX8_never_8 : decode cX8_never 8 = .ok (.iconst 0, 1) := by decide +kernel
theorem dX8_never_9 : decode cX8_never 9 = .ok (.iaload, 1) := by decide +kernel
theorem dX8_never_10 : decode cX8_never 10 = .ok (.aload_n 0, 1) := by decide +kernel
theorem dX8_never_11 : decode cX8_never 11 = .ok (.getfield 32, 3) := by decide +kernel
theorem dX8_never_14 : decode cX8_never 14 = .ok (.invokevirtual 195, 3) := by decide +kernel
theorem dX8_never_17 : decode cX8_never 17 = .ok (.iconst 0, 1) := by decide +kernel
theorem dX8_never_18 : decode cX8_never 18 = .ok (.istore_n 1, 1) := by decide +kernel
theorem dX8_never_19 : decode cX8_never 19 = .ok (.iconst 0, 1) := by decide +kernel
theorem dX8_never_20 : decode cX8_never 20 = .ok (.istore_n 2, 1) := by decide +kernel
theorem dX8_never_21 : decode cX8_never 21 = .ok (.iload_n 2, 1) := by decide +kernel
theorem dX8_never_22 : decode cX8_never 22 = .ok (.bipush 8, 2) := by decide +kernel
theorem dX8_never_24 : decode cX8_never 24 = .ok (.if_icmp .ge 38, 3) := by decide +kernel
theorem dX8_never_27 : decode cX8_never 27 = .ok (.aload_n 0, 1) := by decide +kernel
theorem dX8_never_28 : decode cX8_never 28 = .ok (.getfield 20, 3) := by decide +kernel
theorem dX8_never_31 : decode cX8_never 31 = .ok (.iload_n 2, 1) := by decide +kernel
theorem dX8_never_32 : decode cX8_never 32 = .ok (.invokevirtual 135, 3) := by decide +kernel
theorem dX8_never_35 : decode cX8_never 35 = .ok (.ifCond .eq 27, 3) := by decide +kernel
theorem dX8_never_38 : decode cX8_never 38 = .ok (.aload_n 0, 1) := by decide +kernel
theorem dX8_never_39 : decode cX8_never 39 = .ok (.getfield 32, 3) := by decide +kernel
theorem dX8_never_42 : decode cX8_never 42 = .ok (.iload_n 2, 1) := by decide +kernel
theorem dX8_never_43 : decode cX8_never 43 = .ok (.iaload, 1) := by decide +kernel
theorem dX8_never_44 : decode cX8_never 44 = .ok (.sipush 9999, 3) := by decide +kernel
theorem dX8_never_47 : decode cX8_never 47 = .ok (.if_icmp .ne 9, 3) := by decide +kernel
theorem dX8_never_50 : decode cX8_never 50 = .ok (.iload_n 1, 1) := by decide +kernel
theorem dX8_never_51 : decode cX8_never 51 = .ok (.iconst 1, 1) := by decide +kernel
theorem dX8_never_52 : decode cX8_never 52 = .ok (.iload_n 2, 1) := by decide +kernel
theorem dX8_never_53 : decode cX8_never 53 = .ok (.ishl, 1) := by decide +kernel
theorem dX8_never_54 : decode cX8_never 54 = .ok (.ior, 1) := by decide +kernel
theorem dX8_never_55 : decode cX8_never 55 = .ok (.istore_n 1, 1) := by decide +kernel
theorem dX8_never_56 : decode cX8_never 56 = .ok (.iinc 2 1, 3) := by decide +kernel
theorem dX8_never_59 : decode cX8_never 59 = .ok (.goto (-38), 3) := by decide +kernel
theorem dX8_never_62 : decode cX8_never 62 = .ok (.iload_n 1, 1) := by decide +kernel
theorem dX8_never_63 : decode cX8_never 63 = .ok (.ireturn, 1) := by decide +kernel
set_option maxRecDepth 20000 in
theorem ggX8_undo_X1_stepBack : GoodIn wsX8_undo wsX1_stepBack := goodIn_r _ [7, 8, 9, 10, 11, 12, 13, 14, 15, 16, 17, 18, 19, 20, 21, 22, 23, 24, 25, 26, 27, 28, 29, 30, 31, 32, 33, 50, 51, 52, 53, 54, 55, 56, 57, 58, 59, 60, 61, 62, 63, 64, 65] rfl (by decide +kernel)
set_option maxRecDepth 20000 in
theorem gX8_undo_X1_stepBack : GoodIn wsX8_undo (wsV RX8 264 RX1 yX1_stepBack wsX1_stepBack) := goodIn_app (goodIn_of _ (by decide +kernel)) ggX8_undo_X1_stepBack
theorem dX8_undo_0 : decode cX8_undo 0 = .ok (.aload_n 0, 1) := by decide +kernel
theorem dX8_undo_1 : decode cX8_undo 1 = .ok (.getfield 24, 3) := by decide +kernel
theorem dX8_undo_4 : decode cX8_undo 4 = .ok (.aload_n 0, 1) := by decide +kernel
theorem dX8_undo_5 : decode cX8_undo 5 = .ok (.getfield 20, 3) := by decide +kernel
theorem dX8_undo_8 : decode cX8_undo 8 = .ok (.invokevirtual 264, 3) := by decide +kernel
theorem dX8_undo_11 : decode cX8_undo 11 = .ok (.ireturn, 1) := by decide +kernel
set_option maxRecDepth 20000 in
theorem ggX8_redo_X1_stepOn : GoodIn wsX8_redo wsX1_stepOn := goodIn_r _ [7, 8, 9, 10, 11, 12, 13, 14, 15, 16, 17, 18, 19, 20, 21, 22, 23, 24, 25, 26, 27, 28, 29, 30, 31, 32, 33, 34, 51, 52, 53, 54, 55, 56, 57, 58, 59, 60, 61, 62, 63, 64, 65, 66] rfl (by decide +kernel)
set_option maxRecDepth 20000 in
theorem gX8_redo_X1_stepOn : GoodIn wsX8_redo (wsV RX8 268 RX1 yX1_stepOn wsX1_stepOn) := goodIn_app (goodIn_of _ (by decide +kernel)) ggX8_redo_X1_stepOn
theorem dX8_redo_0 : decode cX8_redo 0 = .ok (.aload_n 0, 1) := by decide +kernel
theorem dX8_redo_1 : decode cX8_redo 1 = .ok (.getfield 24, 3) := by decide +kernel
theorem dX8_redo_4 : decode cX8_redo 4 = .ok (.aload_n 0, 1) := by decide +kernel
theorem dX8_redo_5 : decode cX8_redo 5 = .ok (.getfield 20, 3) := by decide +kernel
theorem dX8_redo_8 : decode cX8_redo 8 = .ok (.invokevirtual 268, 3) := by decide +kernel
theorem dX8_redo_11 : decode cX8_redo 11 = .ok (.ireturn, 1) := by decide +kernel
set_option maxRecDepth 20000 in
theorem ggX8_body_X0_add : GoodIn wsX8_body wsX0_add := goodIn_r _ [6, 7, 8, 25, 26, 27, 28, 29, 30] rfl (by decide +kernel)
set_option maxRecDepth 20000 in
theorem gX8_body_X0_add : GoodIn wsX8_body (wsV RX8 271 RX0 yX0_add wsX0_add) := goodIn_app (goodIn_of _ (by decide +kernel)) ggX8_body_X0_add
theorem dX8_body_0 : decode cX8_body 0 = .ok (.aload_n 0, 1) := by decide +kernel
theorem dX8_body_1 : decode cX8_body 1 = .ok (.getfield 66, 3) := by decide +kernel
theorem dX8_body_4 : decode cX8_body 4 = .ok (.iload_n 1, 1) := by decide +kernel
theorem dX8_body_5 : decode cX8_body 5 = .ok (.invokevirtual 271, 3) := by decide +kernel
theorem dX8_body_8 : decode cX8_body 8 = .ok (.ireturn, 1) := by decide +kernel
set_option maxRecDepth 20000 in
theorem ggX8_act_X0_perform : GoodIn wsX8_act wsX0_perform := goodIn_r _ [6, 7, 8, 9, 10, 11, 12, 13, 5, 14, 15, 16, 17, 18, 19, 20, 21, 22, 23, 24, 25, 42, 43, 44, 45, 46, 47] rfl (by decide +kernel)
set_option maxRecDepth 20000 in
theorem gX8_act_X0_perform : GoodIn wsX8_act (wsV RX8 274 RX0 yX0_perform wsX0_perform) := goodIn_app (goodIn_of _ (by decide +kernel)) ggX8_act_X0_perform
theorem dX8_act_0 : decode cX8_act 0 = .ok (.aload_n 0, 1) := by decide +kernel
theorem dX8_act_1 : decode cX8_act 1 = .ok (.getfield 66, 3) := by decide +kernel
theorem dX8_act_4 : decode cX8_act 4 = .ok (.iload_n 1, 1) := by decide +kernel
theorem dX8_act_5 : decode cX8_act 5 = .ok (.iload_n 2, 1) := by decide +kernel
theorem dX8_act_6 : decode cX8_act 6 = .ok (.iload_n 3, 1) := by decide +kernel
theorem dX8_act_7 : decode cX8_act 7 = .ok (.invokevirtual 274, 3) := by decide +kernel
theorem dX8_act_10 : decode cX8_act 10 = .ok (.ireturn, 1) := by decide +kernel
set_option maxRecDepth 20000 in
theorem ggX8_trace_X0_traced : GoodIn wsX8_trace wsX0_traced := goodIn_r _ [6, 7, 8, 25, 26, 27, 28, 29, 30] rfl (by decide +kernel)
set_option maxRecDepth 20000 in
theorem gX8_trace_X0_traced : GoodIn wsX8_trace (wsV RX8 277 RX0 yX0_traced wsX0_traced) := goodIn_app (goodIn_of _ (by decide +kernel)) ggX8_trace_X0_traced
theorem dX8_trace_0 : decode cX8_trace 0 = .ok (.aload_n 0, 1) := by decide +kernel
theorem dX8_trace_1 : decode cX8_trace 1 = .ok (.getfield 66, 3) := by decide +kernel
theorem dX8_trace_4 : decode cX8_trace 4 = .ok (.iload_n 1, 1) := by decide +kernel
theorem dX8_trace_5 : decode cX8_trace 5 = .ok (.invokevirtual 277, 3) := by decide +kernel
theorem dX8_trace_8 : decode cX8_trace 8 = .ok (.ireturn, 1) := by decide +kernel
set_option maxRecDepth 20000 in
theorem ggX8_keep_X8_shelfAt : GoodIn wsX8_keep wsX8_shelfAt := goodIn_r _ [6, 7, 21, 22, 23, 24, 25, 26, 27, 28, 29, 30, 31, 32, 33, 34, 35, 36] rfl (by decide +kernel)
set_option maxRecDepth 20000 in
theorem gX8_keep_X8_shelfAt : GoodIn wsX8_keep (wsV RX8 87 RX8 yX8_shelfAt wsX8_shelfAt) := goodIn_app (goodIn_of _ (by decide +kernel)) ggX8_keep_X8_shelfAt
set_option maxRecDepth 20000 in
theorem ggX8_keep_X0_has : GoodIn wsX8_keep wsX0_has := goodIn_r _ [12, 13, 37, 38, 39, 40, 41, 42] rfl (by decide +kernel)
set_option maxRecDepth 20000 in
theorem gX8_keep_X0_has : GoodIn wsX8_keep (wsV RX8 280 RX0 yX0_has wsX0_has) := goodIn_app (goodIn_of _ (by decide +kernel)) ggX8_keep_X0_has
set_option maxRecDepth 20000 in
theorem ggX8_keep_X5_takeBody : GoodIn wsX8_keep wsX5_takeBody := goodIn_r _ [18, 19, 20, 43, 44, 45, 46] rfl (by decide +kernel)
set_option maxRecDepth 20000 in
theorem gX8_keep_X5_takeBody : GoodIn wsX8_keep (wsV RX8 283 RX5 yX5_takeBody wsX5_takeBody) := goodIn_app (goodIn_of _ (by decide +kernel)) ggX8_keep_X5_takeBody
theorem dX8_keep_0 : decode cX8_keep 0 = .ok (.aload_n 0, 1) := by decide +kernel
theorem dX8_keep_1 : decode cX8_keep 1 = .ok (.iload_n 1, 1) := by decide +kernel
theorem dX8_keep_2 : decode cX8_keep 2 = .ok (.invokevirtual 87, 3) := by decide +kernel
theorem dX8_keep_5 : decode cX8_keep 5 = .ok (.astore_n 3, 1) := by decide +kernel
theorem dX8_keep_6 : decode cX8_keep 6 = .ok (.aload_n 3, 1) := by decide +kernel
theorem dX8_keep_7 : decode cX8_keep 7 = .ok (.ifnull 19, 3) := by decide +kernel
theorem dX8_keep_10 : decode cX8_keep 10 = .ok (.iload_n 2, 1) := by decide +kernel
theorem dX8_keep_11 : decode cX8_keep 11 = .ok (.iconst (-1), 1) := by decide +kernel
theorem dX8_keep_12 : decode cX8_keep 12 = .ok (.if_icmp .eq 16, 3) := by decide +kernel
theorem dX8_keep_15 : decode cX8_keep 15 = .ok (.aload_n 0, 1) := by decide +kernel
theorem dX8_keep_16 : decode cX8_keep 16 = .ok (.getfield 66, 3) := by decide +kernel
theorem dX8_keep_19 : decode cX8_keep 19 = .ok (.iload_n 2, 1) := by decide +kernel
theorem dX8_keep_20 : decode cX8_keep 20 = .ok (.invokevirtual 280, 3) := by decide +kernel
theorem dX8_keep_23 : decode cX8_keep 23 = .ok (.ifCond .ne 5, 3) := by decide +kernel
theorem dX8_keep_26 : decode cX8_keep 26 = .ok (.iconst (-1), 1) := by decide +kernel
theorem dX8_keep_27 : decode cX8_keep 27 = .ok (.ireturn, 1) := by decide +kernel
theorem dX8_keep_28 : decode cX8_keep 28 = .ok (.aload_n 3, 1) := by decide +kernel
theorem dX8_keep_29 : decode cX8_keep 29 = .ok (.iload_n 2, 1) := by decide +kernel
theorem dX8_keep_30 : decode cX8_keep 30 = .ok (.invokevirtual 283, 3) := by decide +kernel
theorem dX8_keep_33 : decode cX8_keep 33 = .ok (.iconst 1, 1) := by decide +kernel
theorem dX8_keep_34 : decode cX8_keep 34 = .ok (.ireturn, 1) := by decide +kernel
set_option maxRecDepth 20000 in
theorem ggX8_row_X8_shelfAt : GoodIn wsX8_row wsX8_shelfAt := goodIn_r _ [5, 6, 27, 28, 29, 30, 31, 32, 33, 34, 35, 36, 37, 38, 39, 40, 41, 42] rfl (by decide +kernel)
set_option maxRecDepth 20000 in
theorem gX8_row_X8_shelfAt : GoodIn wsX8_row (wsV RX8 87 RX8 yX8_shelfAt wsX8_shelfAt) := goodIn_app (goodIn_of _ (by decide +kernel)) ggX8_row_X8_shelfAt
set_option maxRecDepth 20000 in
theorem ggX8_row_X5_takeRow : GoodIn wsX8_row wsX5_takeRow := goodIn_r _ [11, 12, 13, 14, 15, 16, 17, 18, 19, 20, 21, 22, 23, 24, 25, 26, 43, 44, 45, 46] rfl (by decide +kernel)
set_option maxRecDepth 20000 in
theorem gX8_row_X5_takeRow : GoodIn wsX8_row (wsV RX8 286 RX5 yX5_takeRow wsX5_takeRow) := goodIn_app (goodIn_of _ (by decide +kernel)) ggX8_row_X5_takeRow
theorem dX8_row_0 : decode cX8_row 0 = .ok (.aload_n 0, 1) := by decide +kernel
theorem dX8_row_1 : decode cX8_row 1 = .ok (.iload_n 1, 1) := by decide +kernel
theorem dX8_row_2 : decode cX8_row 2 = .ok (.invokevirtual 87, 3) := by decide +kernel
theorem dX8_row_5 : decode cX8_row 5 = .ok (.astore 4, 2) := by decide +kernel
theorem dX8_row_7 : decode cX8_row 7 = .ok (.aload 4, 2) := by decide +kernel
theorem dX8_row_9 : decode cX8_row 9 = .ok (.ifnull 18, 3) := by decide +kernel
theorem dX8_row_12 : decode cX8_row 12 = .ok (.iload_n 2, 1) := by decide +kernel
theorem dX8_row_13 : decode cX8_row 13 = .ok (.ifCond .lt 14, 3) := by decide +kernel
theorem dX8_row_16 : decode cX8_row 16 = .ok (.iload_n 2, 1) := by decide +kernel
theorem dX8_row_17 : decode cX8_row 17 = .ok (.iconst 4, 1) := by decide +kernel
theorem dX8_row_18 : decode cX8_row 18 = .ok (.if_icmp .gt 9, 3) := by decide +kernel
theorem dX8_row_21 : decode cX8_row 21 = .ok (.iload_n 3, 1) := by decide +kernel
theorem dX8_row_22 : decode cX8_row 22 = .ok (.bipush 60, 2) := by decide +kernel
theorem dX8_row_24 : decode cX8_row 24 = .ok (.if_icmp .le 5, 3) := by decide +kernel
theorem dX8_row_27 : decode cX8_row 27 = .ok (.iconst (-1), 1) := by decide +kernel
theorem dX8_row_28 : decode cX8_row 28 = .ok (.ireturn, 1) := by decide +kernel
theorem dX8_row_29 : decode cX8_row 29 = .ok (.iload_n 3, 1) := by decide +kernel
theorem dX8_row_30 : decode cX8_row 30 = .ok (.ifCond .ge 6, 3) := by decide +kernel
theorem dX8_row_33 : decode cX8_row 33 = .ok (.bipush (-14), 2) := by decide +kernel
theorem dX8_row_35 : decode cX8_row 35 = .ok (.ireturn, 1) := by decide +kernel
theorem dX8_row_36 : decode cX8_row 36 = .ok (.aload 4, 2) := by decide +kernel
theorem dX8_row_38 : decode cX8_row 38 = .ok (.iload_n 2, 1) := by decide +kernel
theorem dX8_row_39 : decode cX8_row 39 = .ok (.iload_n 3, 1) := by decide +kernel
theorem dX8_row_40 : decode cX8_row 40 = .ok (.invokevirtual 286, 3) := by decide +kernel
theorem dX8_row_43 : decode cX8_row 43 = .ok (.iconst 1, 1) := by decide +kernel
theorem dX8_row_44 : decode cX8_row 44 = .ok (.ireturn, 1) := by decide +kernel
set_option maxRecDepth 20000 in
theorem ggX8_put_X8_refusalOf : GoodIn wsX8_put wsX8_refusalOf := goodIn_r _ [5, 6, 7, 8, 4, 9, 10, 11, 12, 13, 14, 15, 16, 17, 18, 19, 20, 21, 22, 23, 24, 25, 26, 37, 38, 39, 40, 41, 42, 43, 44, 45, 46, 47, 48, 49, 50, 51, 52, 53, 54, 55, 56] rfl (by decide +kernel)
set_option maxRecDepth 20000 in
theorem gX8_put_X8_refusalOf : GoodIn wsX8_put (wsV RX8 290 RX8 yX8_refusalOf wsX8_refusalOf) := goodIn_app (goodIn_of _ (by decide +kernel)) ggX8_put_X8_refusalOf
set_option maxRecDepth 20000 in
theorem ggX8_put_X8_shelfAt : GoodIn wsX8_put wsX8_shelfAt := goodIn_r _ [9, 10, 37, 38, 39, 40, 41, 42, 43, 44, 45, 46, 47, 48, 49, 50, 51, 52] rfl (by decide +kernel)
set_option maxRecDepth 20000 in
theorem gX8_put_X8_shelfAt : GoodIn wsX8_put (wsV RX8 87 RX8 yX8_shelfAt wsX8_shelfAt) := goodIn_app (goodIn_of _ (by decide +kernel)) ggX8_put_X8_shelfAt
set_option maxRecDepth 20000 in
theorem ggX8_put_X5_store : GoodIn wsX8_put wsX5_store := goodIn_r _ [30, 31, 32, 22, 23, 14, 24, 25, 26, 18, 19, 20, 16, 33, 34, 35, 36, 53, 54, 55, 56] rfl (by decide +kernel)
set_option maxRecDepth 20000 in
theorem gX8_put_X5_store : GoodIn wsX8_put (wsV RX8 293 RX5 yX5_store wsX5_store) := goodIn_app (goodIn_of _ (by decide +kernel)) ggX8_put_X5_store
theorem dX8_put_0 : decode cX8_put 0 = .ok (.aload_n 0, 1) := by decide +kernel
theorem dX8_put_1 : decode cX8_put 1 = .ok (.iload_n 1, 1) := by decide +kernel
theorem dX8_put_2 : decode cX8_put 2 = .ok (.iload_n 2, 1) := by decide +kernel
theorem dX8_put_3 : decode cX8_put 3 = .ok (.invokevirtual 290, 3) := by decide +kernel
theorem dX8_put_6 : decode cX8_put 6 = .ok (.istore 5, 2) := by decide +kernel
theorem dX8_put_8 : decode cX8_put 8 = .ok (.aload_n 0, 1) := by decide +kernel
theorem dX8_put_9 : decode cX8_put 9 = .ok (.iload_n 1, 1) := by decide +kernel
theorem dX8_put_10 : decode cX8_put 10 = .ok (.invokevirtual 87, 3) := by decide +kernel
theorem dX8_put_13 : decode cX8_put 13 = .ok (.astore 6, 2) := by decide +kernel
theorem dX8_put_15 : decode cX8_put 15 = .ok (.iload 5, 2) := by decide +kernel
theorem dX8_put_17 : decode cX8_put 17 = .ok (.ifCond .ne 8, 3) := by decide +kernel
theorem dX8_put_20 : decode cX8_put 20 = .ok (.aload 6, 2) := by decide +kernel
theorem dX8_put_22 : decode cX8_put 22 = .ok (.ifnonnull 6, 3) := by decide +kernel
theorem dX8_put_25 : decode cX8_put 25 = .ok (.iload 5, 2) := by decide +kernel
theorem dX8_put_27 : decode cX8_put 27 = .ok (.ireturn, 1) := by decide +kernel
theorem dX8_put_28 : decode cX8_put 28 = .ok (.aload 6, 2) := by decide +kernel
theorem dX8_put_30 : decode cX8_put 30 = .ok (.iload_n 2, 1) := by decide +kernel
theorem dX8_put_31 : decode cX8_put 31 = .ok (.lload_n 3, 1) := by decide +kernel
theorem dX8_put_32 : decode cX8_put 32 = .ok (.invokevirtual 293, 3) := by decide +kernel
theorem dX8_put_35 : decode cX8_put 35 = .ok (.iconst 1, 1) := by decide +kernel
theorem dX8_put_36 : decode cX8_put 36 = .ok (.ireturn, 1) := by decide +kernel
set_option maxRecDepth 20000 in
theorem ggX8_element_X8_shelfAt : GoodIn wsX8_element wsX8_shelfAt := goodIn_r _ [6, 7, 34, 35, 36, 37, 38, 39, 40, 41, 42, 43, 44, 45, 46, 47, 48, 49] rfl (by decide +kernel)
set_option maxRecDepth 20000 in
theorem gX8_element_X8_shelfAt : GoodIn wsX8_element (wsV RX8 87 RX8 yX8_shelfAt wsX8_shelfAt) := goodIn_app (goodIn_of _ (by decide +kernel)) ggX8_element_X8_shelfAt
set_option maxRecDepth 20000 in
theorem ggX8_element_X8_refusalOf : GoodIn wsX8_element wsX8_refusalOf := goodIn_r _ [11, 2, 3, 4, 5, 6, 7, 12, 13, 14, 15, 16, 17, 18, 19, 20, 21, 22, 23, 24, 25, 26, 27, 34, 35, 36, 37, 38, 39, 40, 41, 42, 43, 44, 45, 46, 47, 48, 49, 50, 51, 52, 53] rfl (by decide +kernel)
set_option maxRecDepth 20000 in
theorem gX8_element_X8_refusalOf : GoodIn wsX8_element (wsV RX8 290 RX8 yX8_refusalOf wsX8_refusalOf) := goodIn_app (goodIn_of _ (by decide +kernel)) ggX8_element_X8_refusalOf
set_option maxRecDepth 20000 in
theorem ggX8_element_X5_cell : GoodIn wsX8_element wsX5_cell := goodIn_r _ [31, 32, 33, 23, 24, 15, 25, 26, 27, 19, 20, 21, 17, 50, 51, 52, 53] rfl (by decide +kernel)
set_option maxRecDepth 20000 in
theorem gX8_element_X5_cell : GoodIn wsX8_element (wsV RX8 103 RX5 yX5_cell wsX5_cell) := goodIn_app (goodIn_of _ (by decide +kernel)) ggX8_element_X5_cell
theorem dX8_element_0 : decode cX8_element 0 = .ok (.aload_n 0, 1) := by decide +kernel
theorem dX8_element_1 : decode cX8_element 1 = .ok (.iload_n 1, 1) := by decide +kernel
theorem dX8_element_2 : decode cX8_element 2 = .ok (.invokevirtual 87, 3) := by decide +kernel
theorem dX8_element_5 : decode cX8_element 5 = .ok (.astore_n 3, 1) := by decide +kernel
theorem dX8_element_6 : decode cX8_element 6 = .ok (.aload_n 0, 1) := by decide +kernel
theorem dX8_element_7 : decode cX8_element 7 = .ok (.iload_n 1, 1) := by decide +kernel
theorem dX8_element_8 : decode cX8_element 8 = .ok (.iload_n 2, 1) := by decide +kernel
theorem dX8_element_9 : decode cX8_element 9 = .ok (.invokevirtual 290, 3) := by decide +kernel
theorem dX8_element_12 : decode cX8_element 12 = .ok (.ifCond .ne 7, 3) := by decide +kernel
theorem dX8_element_15 : decode cX8_element 15 = .ok (.aload_n 3, 1) := by decide +kernel
theorem dX8_element_16 : decode cX8_element 16 = .ok (.ifnonnull 7, 3) := by decide +kernel
theorem dX8_element_19 : decode cX8_element 19 = .ok (.ldc2_w 297, 3) := by decide +kernel
theorem dX8_element_22 : decode cX8_element 22 = .ok (.lreturn, 1) := by decide +kernel
theorem dX8_element_23 : decode cX8_element 23 = .ok (.aload_n 3, 1) := by decide +kernel
theorem dX8_element_24 : decode cX8_element 24 = .ok (.iload_n 2, 1) := by decide +kernel
theorem dX8_element_25 : decode cX8_element 25 = .ok (.invokevirtual 103, 3) := by decide +kernel
theorem dX8_element_28 : decode cX8_element 28 = .ok (.lreturn, 1) := by decide +kernel
set_option maxRecDepth 20000 in
theorem ggX8_shift_X8_shelfAt : GoodIn wsX8_shift wsX8_shelfAt := goodIn_r _ [11, 12, 37, 38, 39, 40, 41, 42, 43, 44, 45, 46, 47, 48, 49, 50, 51, 52] rfl (by decide +kernel)
set_option maxRecDepth 20000 in
theorem gX8_shift_X8_shelfAt : GoodIn wsX8_shift (wsV RX8 87 RX8 yX8_shelfAt wsX8_shelfAt) := goodIn_app (goodIn_of _ (by decide +kernel)) ggX8_shift_X8_shelfAt
set_option maxRecDepth 20000 in
theorem ggX8_shift_X5_holdsNothing : GoodIn wsX8_shift wsX5_holdsNothing := goodIn_r _ [17, 18, 33, 34, 35, 36] rfl (by decide +kernel)
set_option maxRecDepth 20000 in
theorem gX8_shift_X5_holdsNothing : GoodIn wsX8_shift (wsV RX8 91 RX5 yX5_holdsNothing wsX5_holdsNothing) := goodIn_app (goodIn_of _ (by decide +kernel)) ggX8_shift_X5_holdsNothing
set_option maxRecDepth 20000 in
theorem ggX8_shift_X5_holdsRow : GoodIn wsX8_shift wsX5_holdsRow := goodIn_r _ [22, 18, 33, 34, 35, 36] rfl (by decide +kernel)
set_option maxRecDepth 20000 in
theorem gX8_shift_X5_holdsRow : GoodIn wsX8_shift (wsV RX8 299 RX5 yX5_holdsRow wsX5_holdsRow) := goodIn_app (goodIn_of _ (by decide +kernel)) ggX8_shift_X5_holdsRow
set_option maxRecDepth 20000 in
theorem ggX8_shift_X5_holdsRowOf : GoodIn wsX8_shift wsX5_holdsRowOf := goodIn_r _ [26, 18, 27, 20, 21, 16, 22, 33, 34, 35, 36] rfl (by decide +kernel)
set_option maxRecDepth 20000 in
theorem gX8_shift_X5_holdsRowOf : GoodIn wsX8_shift (wsV RX8 95 RX5 yX5_holdsRowOf wsX5_holdsRowOf) := goodIn_app (goodIn_of _ (by decide +kernel)) ggX8_shift_X5_holdsRowOf
set_option maxRecDepth 20000 in
theorem ggX8_shift_X5_holdsCells : GoodIn wsX8_shift wsX5_holdsCells := goodIn_r _ [31, 32, 27, 20, 21, 16, 22, 18, 33, 34, 35, 36] rfl (by decide +kernel)
set_option maxRecDepth 20000 in
theorem gX8_shift_X5_holdsCells : GoodIn wsX8_shift (wsV RX8 99 RX5 yX5_holdsCells wsX5_holdsCells) := goodIn_app (goodIn_of _ (by decide +kernel)) ggX8_shift_X5_holdsCells
theorem dX8_shift_0 : decode cX8_shift 0 = .ok (.aload_n 0, 1) := by decide +kernel
theorem dX8_shift_1 : decode cX8_shift 1 = .ok (.iload_n 1, 1) := by decide +kernel
theorem dX8_shift_2 : decode cX8_shift 2 = .ok (.invokevirtual 87, 3) := by decide +kernel
theorem dX8_shift_5 : decode cX8_shift 5 = .ok (.astore 6, 2) := by decide +kernel
theorem dX8_shift_7 : decode cX8_shift 7 = .ok (.aload_n 0, 1) := by decide +kernel
theorem dX8_shift_8 : decode cX8_shift 8 = .ok (.iload_n 3, 1) := by decide +kernel
theorem dX8_shift_9 : decode cX8_shift 9 = .ok (.invokevirtual 87, 3) := by decide +kernel
theorem dX8_shift_12 : decode cX8_shift 12 = .ok (.astore 7, 2) := by decide +kernel
theorem dX8_shift_14 : decode cX8_shift 14 = .ok (.aload 6, 2) := by decide +kernel
theorem dX8_shift_16 : decode cX8_shift 16 = .ok (.ifnull 8, 3) := by decide +kernel
theorem dX8_shift_19 : decode cX8_shift 19 = .ok (.aload 7, 2) := by decide +kernel
theorem dX8_shift_21 : decode cX8_shift 21 = .ok (.ifnonnull 5, 3) := by decide +kernel
theorem dX8_shift_24 : decode cX8_shift 24 = .ok (.iconst (-1), 1) := by decide +kernel
theorem dX8_shift_25 : decode cX8_shift 25 = .ok (.ireturn, 1) := by decide +kernel
theorem dX8_shift_26 : decode cX8_shift 26 = .ok (.aload 6, 2) := by decide +kernel
theorem dX8_shift_28 : decode cX8_shift 28 = .ok (.invokevirtual 91, 3) := by decide +kernel
theorem dX8_shift_31 : decode cX8_shift 31 = .ok (.ifCond .ne 11, 3) := by decide +kernel
theorem dX8_shift_34 : decode cX8_shift 34 = .ok (.aload 7, 2) := by decide +kernel
theorem dX8_shift_36 : decode cX8_shift 36 = .ok (.invokevirtual 91, 3) := by decide +kernel
theorem dX8_shift_39 : decode cX8_shift 39 = .ok (.ifCond .eq 6, 3) := by decide +kernel
theorem dX8_shift_42 : decode cX8_shift 42 = .ok (.bipush (-11), 2) := by decide +kernel
theorem dX8_shift_44 : decode cX8_shift 44 = .ok (.ireturn, 1) := by decide +kernel
theorem dX8_shift_45 : decode cX8_shift 45 = .ok (.aload 6, 2) := by decide +kernel
theorem dX8_shift_47 : decode cX8_shift 47 = .ok (.invokevirtual 299, 3) := by decide +kernel
theorem dX8_shift_50 : decode cX8_shift 50 = .ok (.ifCond .eq 16, 3) := by decide +kernel
theorem dX8_shift_53 : decode cX8_shift 53 = .ok (.aload 7, 2) := by decide +kernel
theorem dX8_shift_55 : decode cX8_shift 55 = .ok (.aload 6, 2) := by decide +kernel
theorem dX8_shift_57 : decode cX8_shift 57 = .ok (.getfield 302, 3) := by decide +kernel
theorem dX8_shift_60 : decode cX8_shift 60 = .ok (.invokevirtual 95, 3) := by decide +kernel
theorem dX8_shift_63 : decode cX8_shift 63 = .ok (.ifCond .ne 6, 3) := by decide +kernel
theorem dX8_shift_66 : decode cX8_shift 66 = .ok (.bipush (-12), 2) := by decide +kernel
theorem dX8_shift_68 : decode cX8_shift 68 = .ok (.ireturn, 1) := by decide +kernel
theorem dX8_shift_69 : decode cX8_shift 69 = .ok (.aload 6, 2) := by decide +kernel
theorem dX8_shift_71 : decode cX8_shift 71 = .ok (.iload_n 2, 1) := by decide +kernel
theorem dX8_shift_72 : decode cX8_shift 72 = .ok (.iload 5, 2) := by decide +kernel
theorem dX8_shift_74 : decode cX8_shift 74 = .ok (.invokevirtual 99, 3) := by decide +kernel
theorem dX8_shift_77 : decode cX8_shift 77 = .ok (.ifCond .eq 15, 3) := by decide +kernel
theorem dX8_shift_80 : decode cX8_shift 80 = .ok (.aload 7, 2) := by decide +kernel
theorem dX8_shift_82 : decode cX8_shift 82 = .ok (.iload 4, 2) := by decide +kernel
theorem dX8_shift_84 : decode cX8_shift 84 = .ok (.iload 5, 2) := by decide +kernel
theorem dX8_shift_86 : decode cX8_shift 86 = .ok (.invokevirtual 99, 3) := by decide +kernel
theorem dX8_shift_89 : decode cX8_shift 89 = .ok (.ifCond .ne 6, 3) := by decide +kernel
theorem dX8_shift_92 : decode cX8_shift 92 = .ok (.bipush (-13), 2) := by decide +kernel
theorem dX8_shift_94 : decode cX8_shift 94 = .ok (.ireturn, 1) := by decide +kernel
theorem dX8_shift_95 : decode cX8_shift 95 = .ok (.aload 6, 2) := by decide +kernel
theorem dX8_shift_97 : decode cX8_shift 97 = .ok (.getfield 305, 3) := by decide +kernel
theorem dX8_shift_100 : decode cX8_shift 100 = .ok (.iload_n 2, 1) := by decide +kernel
theorem dX8_shift_101 : decode cX8_shift 101 = .ok (.aload 7, 2) := by decide +kernel
theorem dX8_shift_103 : decode cX8_shift 103 = .ok (.getfield 305, 3) := by decide +kernel
theorem dX8_shift_106 : decode cX8_shift 106 = .ok (.iload 4, 2) := by decide +kernel
theorem dX8_shift_108 : decode cX8_shift 108 = .ok (.iload 5, 2) := by decide +kernel
theorem dX8_shift_110 : decode cX8_shift 110 = .ok (.invokestatic 309, 3) := by decide +kernel
theorem dX8_shift_113 : decode cX8_shift 113 = .ok (.iload 5, 2) := by decide +kernel
theorem dX8_shift_115 : decode cX8_shift 115 = .ok (.ireturn, 1) := by decide +kernel
