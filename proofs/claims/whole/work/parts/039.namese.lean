set_option maxRecDepth 20000 in
theorem ggX9_queue_X9_isPlace : GoodIn wsX9_queue wsX9_isPlace := goodIn_r _ [5, 6, 7, 8, 9, 4, 10, 89, 90, 91, 92, 93, 94, 95, 96, 97, 98, 99, 100, 101, 102, 103, 104, 105, 106, 107, 108, 109, 110, 111, 112, 113, 114, 115, 116, 117, 118, 119, 120, 121, 122, 123, 124, 125, 126, 127, 128, 129, 130, 131, 132, 133, 134, 135, 136, 137, 138, 139, 140, 141, 142, 143, 144, 145, 146, 147, 148, 149, 150, 151, 152, 153] rfl (by decide +kernel)
set_option maxRecDepth 20000 in
theorem gX9_queue_X9_isPlace : GoodIn wsX9_queue (wsV RX9 213 RX9 yX9_isPlace wsX9_isPlace) := goodIn_app (goodIn_of _ (by decide +kernel)) ggX9_queue_X9_isPlace
set_option maxRecDepth 20000 in
theorem ggX9_queue_X9_isMinute : GoodIn wsX9_queue wsX9_isMinute := goodIn_r _ [14, 7, 8, 9, 4, 10] rfl (by decide +kernel)
set_option maxRecDepth 20000 in
theorem gX9_queue_X9_isMinute : GoodIn wsX9_queue (wsV RX9 332 RX9 yX9_isMinute wsX9_isMinute) := goodIn_app (goodIn_of _ (by decide +kernel)) ggX9_queue_X9_isMinute
set_option maxRecDepth 20000 in
theorem ggX9_queue_X9_within : GoodIn wsX9_queue wsX9_within := goodIn_r _ [10] rfl (by decide +kernel)
set_option maxRecDepth 20000 in
theorem gX9_queue_X9_within : GoodIn wsX9_queue (wsV RX9 209 RX9 yX9_within wsX9_within) := goodIn_app (goodIn_of _ (by decide +kernel)) ggX9_queue_X9_within
set_option maxRecDepth 20000 in
theorem ggX9_queue_X9_asIs : GoodIn wsX9_queue wsX9_asIs := goodIn_r _ [18, 19, 20, 21, 22, 23, 24, 25, 26, 89, 90, 91, 92, 93, 94, 95, 96, 97, 98, 99, 100, 101, 102, 103, 104, 105, 106, 107, 108, 109, 110, 111, 112, 113, 114, 115, 116, 117, 118, 119, 120, 121, 122, 123, 124, 125, 126, 127, 128, 129, 130, 131, 132, 133, 134, 135, 136, 137, 138, 139, 140, 141, 142, 143, 144, 145, 146, 147, 148, 149, 150, 151, 152, 153] rfl (by decide +kernel)
set_option maxRecDepth 20000 in
theorem gX9_queue_X9_asIs : GoodIn wsX9_queue (wsV RX9 316 RX9 yX9_asIs wsX9_asIs) := goodIn_app (goodIn_of _ (by decide +kernel)) ggX9_queue_X9_asIs
set_option maxRecDepth 20000 in
theorem ggX9_queue_X9_layStops : GoodIn wsX9_queue wsX9_layStops := goodIn_r _ [30, 31, 32, 33, 34, 35, 36, 4, 37, 20, 38, 22, 39, 40, 41, 42, 43, 44, 45, 46, 47, 48, 49, 50, 51, 26, 52, 53, 54, 55, 56, 57, 58, 59, 60, 61, 62, 63, 64, 65, 66, 67, 68, 69, 70, 71, 72, 73, 74, 75, 76, 24, 89, 90, 91, 92, 93, 94, 95, 96, 97, 98, 99, 100, 101, 102, 103, 104, 105, 106, 107, 108, 109, 110, 111, 112, 113, 114, 115, 116, 117, 118, 119, 120, 121, 122, 123, 124, 125, 126, 127, 128, 129, 130, 131, 132, 133, 134, 135, 136, 137, 138, 139, 140, 141, 142, 143, 144, 145, 146, 147, 148, 149, 150, 151, 152, 153] rfl (by decide +kernel)
set_option maxRecDepth 20000 in
theorem gX9_queue_X9_layStops : GoodIn wsX9_queue (wsV RX9 335 RX9 yX9_layStops wsX9_layStops) := goodIn_app (goodIn_of _ (by decide +kernel)) ggX9_queue_X9_layStops
set_option maxRecDepth 20000 in
theorem ggX9_queue_X9_kthAt : GoodIn wsX9_queue wsX9_kthAt := goodIn_r _ [80, 31, 81, 82, 83, 4, 84, 48, 33, 85, 86, 87, 88, 32, 40, 41, 42, 43, 89, 90, 91, 92, 93, 94, 95, 96, 97, 98, 99, 100, 101, 102, 103, 104, 105, 106, 107, 108, 109, 110, 111, 112, 113, 114, 115, 116, 117, 118, 119, 120, 121, 122, 123, 124, 125, 126, 127, 128, 129, 130, 131, 132, 133, 134, 135, 136, 137, 138, 139, 140, 141, 142, 143, 144, 145, 146, 147, 148, 149, 150, 151, 152, 153] rfl (by decide +kernel)
set_option maxRecDepth 20000 in
theorem gX9_queue_X9_kthAt : GoodIn wsX9_queue (wsV RX9 329 RX9 yX9_kthAt wsX9_kthAt) := goodIn_app (goodIn_of _ (by decide +kernel)) ggX9_queue_X9_kthAt
theorem dX9_queue_0 : decode cX9_queue 0 = .ok (.aload_n 0, 1) := by decide +kernel
theorem dX9_queue_1 : decode cX9_queue 1 = .ok (.iload_n 1, 1) := by decide +kernel
theorem dX9_queue_2 : decode cX9_queue 2 = .ok (.invokevirtual 213, 3) := by decide +kernel
theorem dX9_queue_5 : decode cX9_queue 5 = .ok (.ifCond .eq 22, 3) := by decide +kernel
theorem dX9_queue_8 : decode cX9_queue 8 = .ok (.aload_n 0, 1) := by decide +kernel
theorem dX9_queue_9 : decode cX9_queue 9 = .ok (.iload_n 2, 1) := by decide +kernel
theorem dX9_queue_10 : decode cX9_queue 10 = .ok (.invokevirtual 332, 3) := by decide +kernel
theorem dX9_queue_13 : decode cX9_queue 13 = .ok (.ifCond .eq 14, 3) := by decide +kernel
theorem dX9_queue_16 : decode cX9_queue 16 = .ok (.aload_n 0, 1) := by decide +kernel
theorem dX9_queue_17 : decode cX9_queue 17 = .ok (.iload_n 3, 1) := by decide +kernel
theorem dX9_queue_18 : decode cX9_queue 18 = .ok (.iconst 1, 1) := by decide +kernel
theorem dX9_queue_19 : decode cX9_queue 19 = .ok (.bipush 9, 2) := by decide +kernel
theorem dX9_queue_21 : decode cX9_queue 21 = .ok (.invokevirtual 209, 3) := by decide +kernel
theorem dX9_queue_24 : decode cX9_queue 24 = .ok (.ifCond .ne 5, 3) := by decide +kernel
theorem dX9_queue_27 : decode cX9_queue 27 = .ok (.iconst (-1), 1) := by decide +kernel
theorem dX9_queue_28 : decode cX9_queue 28 = .ok (.ireturn, 1) := by decide +kernel
theorem dX9_queue_29 : decode cX9_queue 29 = .ok (.aload_n 0, 1) := by decide +kernel
theorem dX9_queue_30 : decode cX9_queue 30 = .ok (.invokevirtual 316, 3) := by decide +kernel
theorem dX9_queue_33 : decode cX9_queue 33 = .ok (.aload_n 0, 1) := by decide +kernel
theorem dX9_queue_34 : decode cX9_queue 34 = .ok (.invokevirtual 335, 3) := by decide +kernel
theorem dX9_queue_37 : decode cX9_queue 37 = .ok (.aload_n 0, 1) := by decide +kernel
theorem dX9_queue_38 : decode cX9_queue 38 = .ok (.iload_n 1, 1) := by decide +kernel
theorem dX9_queue_39 : decode cX9_queue 39 = .ok (.iload_n 2, 1) := by decide +kernel
theorem dX9_queue_40 : decode cX9_queue 40 = .ok (.iload_n 3, 1) := by decide +kernel
theorem dX9_queue_41 : decode cX9_queue 41 = .ok (.invokevirtual 329, 3) := by decide +kernel
theorem dX9_queue_44 : decode cX9_queue 44 = .ok (.ireturn, 1) := by decide +kernel
set_option maxRecDepth 20000 in
theorem ggX9_getsIn_X9_facts : GoodIn wsX9_getsIn wsX9_facts := goodIn_r _ [10, 4, 5, 11, 12, 13, 14, 3, 15, 16, 36, 37, 38, 39, 40, 41, 42, 43, 44, 45, 46, 47, 48, 49, 50, 51, 52, 53, 54, 55, 56, 57, 58, 59, 60, 61, 62, 63, 64, 65, 66, 67, 68, 69, 70, 71, 72, 73, 74, 75, 76, 77, 78, 79, 80, 81, 82, 83, 84, 85, 86, 87, 88, 89, 90, 91, 92, 93, 94, 95, 96, 97, 98, 99, 100] rfl (by decide +kernel)
set_option maxRecDepth 20000 in
theorem gX9_getsIn_X9_facts : GoodIn wsX9_getsIn (wsV RX9 304 RX9 yX9_facts wsX9_facts) := goodIn_app (goodIn_of _ (by decide +kernel)) ggX9_getsIn_X9_facts
set_option maxRecDepth 20000 in
theorem ggX9_getsIn_X9_given : GoodIn wsX9_getsIn wsX9_given := goodIn_r _ [20, 21, 22, 23, 24, 25, 26, 27, 9, 28, 29, 30, 31, 5, 32, 33, 34, 35, 36, 37, 38, 39, 40, 41, 42, 43, 44, 45, 46, 47, 48, 49, 50, 51, 52, 53, 54, 55, 56, 57, 58, 59, 60, 61, 62, 63, 64, 65, 66, 67, 68, 69, 70, 71, 72, 73, 74, 75, 76, 77, 78, 79, 80, 81, 82, 83, 84, 85, 86, 87, 88, 89, 90, 91, 92, 93, 94, 95, 96, 97, 98, 99, 100] rfl (by decide +kernel)
set_option maxRecDepth 20000 in
theorem gX9_getsIn_X9_given : GoodIn wsX9_getsIn (wsV RX9 307 RX9 yX9_given wsX9_given) := goodIn_app (goodIn_of _ (by decide +kernel)) ggX9_getsIn_X9_given
theorem dX9_getsIn_0 : decode cX9_getsIn 0 = .ok (.aload_n 0, 1) := by decide +kernel
theorem dX9_getsIn_1 : decode cX9_getsIn 1 = .ok (.getfield 101, 3) := by decide +kernel
theorem dX9_getsIn_4 : decode cX9_getsIn 4 = .ok (.ifCond .ne 34, 3) := by decide +kernel
theorem dX9_getsIn_7 : decode cX9_getsIn 7 = .ok (.aload_n 0, 1) := by decide +kernel
theorem dX9_getsIn_8 : decode cX9_getsIn 8 = .ok (.getfield 169, 3) := by decide +kernel
theorem dX9_getsIn_11 : decode cX9_getsIn 11 = .ok (.aload_n 0, 1) := by decide +kernel
theorem dX9_getsIn_12 : decode cX9_getsIn 12 = .ok (.getfield 26, 3) := by decide +kernel
theorem dX9_getsIn_15 : decode cX9_getsIn 15 = .ok (.iload_n 1, 1) := by decide +kernel
theorem dX9_getsIn_16 : decode cX9_getsIn 16 = .ok (.iaload, 1) := by decide +kernel
theorem dX9_getsIn_17 : decode cX9_getsIn 17 = .ok (.iaload, 1) := by decide +kernel
theorem dX9_getsIn_18 : decode cX9_getsIn 18 = .ok (.aload_n 0, 1) := by decide +kernel
theorem dX9_getsIn_19 : decode cX9_getsIn 19 = .ok (.getfield 169, 3) := by decide +kernel
theorem dX9_getsIn_22 : decode cX9_getsIn 22 = .ok (.aload_n 0, 1) := by decide +kernel
theorem dX9_getsIn_23 : decode cX9_getsIn 23 = .ok (.getfield 23, 3) := by decide +kernel
theorem dX9_getsIn_26 : decode cX9_getsIn 26 = .ok (.iload_n 1, 1) := by decide +kernel
theorem dX9_getsIn_27 : decode cX9_getsIn 27 = .ok (.iaload, 1) := by decide +kernel
theorem dX9_getsIn_28 : decode cX9_getsIn 28 = .ok (.iaload, 1) := by decide +kernel
theorem dX9_getsIn_29 : decode cX9_getsIn 29 = .ok (.if_icmp .ge 7, 3) := by decide +kernel
theorem dX9_getsIn_32 : decode cX9_getsIn 32 = .ok (.iconst 1, 1) := by decide +kernel
theorem dX9_getsIn_33 : decode cX9_getsIn 33 = .ok (.goto 4, 3) := by decide +kernel
theorem dX9_getsIn_36 : decode cX9_getsIn 36 = .ok (.iconst 0, 1) := by decide +kernel
theorem dX9_getsIn_37 : decode cX9_getsIn 37 = .ok (.ireturn, 1) := by decide +kernel
theorem dX9_getsIn_38 : decode cX9_getsIn 38 = .ok (.aload_n 0, 1) := by decide +kernel
theorem dX9_getsIn_39 : decode cX9_getsIn 39 = .ok (.iload_n 1, 1) := by decide +kernel
theorem dX9_getsIn_40 : decode cX9_getsIn 40 = .ok (.iload_n 2, 1) := by decide +kernel
theorem dX9_getsIn_41 : decode cX9_getsIn 41 = .ok (.invokevirtual 304, 3) := by decide +kernel
theorem dX9_getsIn_44 : decode cX9_getsIn 44 = .ok (.aload_n 0, 1) := by decide +kernel
theorem dX9_getsIn_45 : decode cX9_getsIn 45 = .ok (.getfield 135, 3) := by decide +kernel
theorem dX9_getsIn_48 : decode cX9_getsIn 48 = .ok (.bipush 7, 2) := by decide +kernel
theorem dX9_getsIn_50 : decode cX9_getsIn 50 = .ok (.aload_n 0, 1) := by decide +kernel
theorem dX9_getsIn_51 : decode cX9_getsIn 51 = .ok (.getfield 169, 3) := by decide +kernel
theorem dX9_getsIn_54 : decode cX9_getsIn 54 = .ok (.aload_n 0, 1) := by decide +kernel
theorem dX9_getsIn_55 : decode cX9_getsIn 55 = .ok (.getfield 26, 3) := by decide +kernel
theorem dX9_getsIn_58 : decode cX9_getsIn 58 = .ok (.iload_n 1, 1) := by decide +kernel
theorem dX9_getsIn_59 : decode cX9_getsIn 59 = .ok (.iaload, 1) := by decide +kernel
theorem dX9_getsIn_60 : decode cX9_getsIn 60 = .ok (.iaload, 1) := by decide +kernel
theorem dX9_getsIn_61 : decode cX9_getsIn 61 = .ok (.iastore, 1) := by decide +kernel
theorem dX9_getsIn_62 : decode cX9_getsIn 62 = .ok (.aload_n 0, 1) := by decide +kernel
theorem dX9_getsIn_63 : decode cX9_getsIn 63 = .ok (.getfield 135, 3) := by decide +kernel
theorem dX9_getsIn_66 : decode cX9_getsIn 66 = .ok (.bipush 8, 2) := by decide +kernel
theorem dX9_getsIn_68 : decode cX9_getsIn 68 = .ok (.aload_n 0, 1) := by decide +kernel
theorem dX9_getsIn_69 : decode cX9_getsIn 69 = .ok (.getfield 169, 3) := by decide +kernel
theorem dX9_getsIn_72 : decode cX9_getsIn 72 = .ok (.aload_n 0, 1) := by decide +kernel
theorem dX9_getsIn_73 : decode cX9_getsIn 73 = .ok (.getfield 23, 3) := by decide +kernel
theorem dX9_getsIn_76 : decode cX9_getsIn 76 = .ok (.iload_n 1, 1) := by decide +kernel
theorem dX9_getsIn_77 : decode cX9_getsIn 77 = .ok (.iaload, 1) := by decide +kernel
theorem dX9_getsIn_78 : decode cX9_getsIn 78 = .ok (.iaload, 1) := by decide +kernel
theorem dX9_getsIn_79 : decode cX9_getsIn 79 = .ok (.iastore, 1) := by decide +kernel
theorem dX9_getsIn_80 : decode cX9_getsIn 80 = .ok (.aload_n 0, 1) := by decide +kernel
theorem dX9_getsIn_81 : decode cX9_getsIn 81 = .ok (.getfield 135, 3) := by decide +kernel
theorem dX9_getsIn_84 : decode cX9_getsIn 84 = .ok (.bipush 9, 2) := by decide +kernel
theorem dX9_getsIn_86 : decode cX9_getsIn 86 = .ok (.iload_n 2, 1) := by decide +kernel
theorem dX9_getsIn_87 : decode cX9_getsIn 87 = .ok (.iload_n 3, 1) := by decide +kernel
theorem dX9_getsIn_88 : decode cX9_getsIn 88 = .ok (.isub, 1) := by decide +kernel
theorem dX9_getsIn_89 : decode cX9_getsIn 89 = .ok (.iastore, 1) := by decide +kernel
theorem dX9_getsIn_90 : decode cX9_getsIn 90 = .ok (.aload_n 0, 1) := by decide +kernel
theorem dX9_getsIn_91 : decode cX9_getsIn 91 = .ok (.iconst 4, 1) := by decide +kernel
theorem dX9_getsIn_92 : decode cX9_getsIn 92 = .ok (.invokevirtual 307, 3) := by decide +kernel
theorem dX9_getsIn_95 : decode cX9_getsIn 95 = .ok (.ifCond .eq 7, 3) := by decide +kernel
theorem dX9_getsIn_98 : decode cX9_getsIn 98 = .ok (.iconst 1, 1) := by decide +kernel
theorem dX9_getsIn_99 : decode cX9_getsIn 99 = .ok (.goto 4, 3) := by decide +kernel
theorem dX9_getsIn_102 : decode cX9_getsIn 102 = .ok (.iconst 0, 1) := by decide +kernel
theorem dX9_getsIn_103 : decode cX9_getsIn 103 = .ok (.ireturn, 1) := by decide +kernel
set_option maxRecDepth 20000 in
theorem ggX9_takenAlong_X9_isHere : GoodIn wsX9_takenAlong wsX9_isHere := goodIn_r _ [8, 9, 10, 11, 12, 13, 7, 14, 15, 16, 17, 18, 19, 56, 57, 58, 59, 60, 61, 62, 63, 64, 65, 66, 67, 68, 69, 70, 71, 72, 73, 74, 75, 76, 77, 78, 79, 80, 81, 82, 83, 84, 85, 86, 87, 88, 89, 90, 91, 92, 93, 94, 95, 96, 97, 98, 99, 100, 101, 102, 103, 104, 105, 106, 107, 108, 109, 110, 111, 112, 113, 114, 115, 116, 117, 118, 119, 120] rfl (by decide +kernel)
set_option maxRecDepth 20000 in
theorem gX9_takenAlong_X9_isHere : GoodIn wsX9_takenAlong (wsV RX9 326 RX9 yX9_isHere wsX9_isHere) := goodIn_app (goodIn_of _ (by decide +kernel)) ggX9_takenAlong_X9_isHere
set_option maxRecDepth 20000 in
theorem ggX9_takenAlong_X9_getsIn : GoodIn wsX9_takenAlong wsX9_getsIn := goodIn_r _ [23, 24, 25, 26, 9, 27, 28, 29, 30, 7, 31, 32, 33, 34, 35, 36, 2, 37, 38, 39, 40, 41, 42, 43, 44, 45, 46, 47, 48, 49, 50, 51, 52, 53, 54, 55, 56, 57, 58, 59, 60, 61, 62, 63, 64, 65, 66, 67, 68, 69, 70, 71, 72, 73, 74, 75, 76, 77, 78, 79, 80, 81, 82, 83, 84, 85, 86, 87, 88, 89, 90, 91, 92, 93, 94, 95, 96, 97, 98, 99, 100, 101, 102, 103, 104, 105, 106, 107, 108, 109, 110, 111, 112, 113, 114, 115, 116, 117, 118, 119, 120] rfl (by decide +kernel)
set_option maxRecDepth 20000 in
theorem gX9_takenAlong_X9_getsIn : GoodIn wsX9_takenAlong (wsV RX9 341 RX9 yX9_getsIn wsX9_getsIn) := goodIn_app (goodIn_of _ (by decide +kernel)) ggX9_takenAlong_X9_getsIn
theorem dX9_takenAlong_0 : decode cX9_takenAlong 0 = .ok (.iload_n 2, 1) := by decide +kernel
theorem dX9_takenAlong_1 : decode cX9_takenAlong 1 = .ok (.istore 4, 2) := by decide +kernel
theorem dX9_takenAlong_3 : decode cX9_takenAlong 3 = .ok (.iload 4, 2) := by decide +kernel
theorem dX9_takenAlong_5 : decode cX9_takenAlong 5 = .ok (.sipush 1440, 3) := by decide +kernel
theorem dX9_takenAlong_8 : decode cX9_takenAlong 8 = .ok (.if_icmp .ge 74, 3) := by decide +kernel
theorem dX9_takenAlong_11 : decode cX9_takenAlong 11 = .ok (.iconst 0, 1) := by decide +kernel
theorem dX9_takenAlong_12 : decode cX9_takenAlong 12 = .ok (.istore 5, 2) := by decide +kernel
theorem dX9_takenAlong_14 : decode cX9_takenAlong 14 = .ok (.iload 5, 2) := by decide +kernel
theorem dX9_takenAlong_16 : decode cX9_takenAlong 16 = .ok (.aload_n 0, 1) := by decide +kernel
theorem dX9_takenAlong_17 : decode cX9_takenAlong 17 = .ok (.getfield 13, 3) := by decide +kernel
theorem dX9_takenAlong_20 : decode cX9_takenAlong 20 = .ok (.if_icmp .ge 56, 3) := by decide +kernel
theorem dX9_takenAlong_23 : decode cX9_takenAlong 23 = .ok (.aload_n 0, 1) := by decide +kernel
theorem dX9_takenAlong_24 : decode cX9_takenAlong 24 = .ok (.iload 5, 2) := by decide +kernel
theorem dX9_takenAlong_26 : decode cX9_takenAlong 26 = .ok (.iload_n 1, 1) := by decide +kernel
theorem dX9_takenAlong_27 : decode cX9_takenAlong 27 = .ok (.iload 4, 2) := by decide +kernel
theorem dX9_takenAlong_29 : decode cX9_takenAlong 29 = .ok (.invokevirtual 326, 3) := by decide +kernel
theorem dX9_takenAlong_32 : decode cX9_takenAlong 32 = .ok (.ifCond .eq 38, 3) := by decide +kernel
theorem dX9_takenAlong_35 : decode cX9_takenAlong 35 = .ok (.aload_n 0, 1) := by decide +kernel
theorem dX9_takenAlong_36 : decode cX9_takenAlong 36 = .ok (.getfield 35, 3) := by decide +kernel
theorem dX9_takenAlong_39 : decode cX9_takenAlong 39 = .ok (.iload 5, 2) := by decide +kernel
theorem dX9_takenAlong_41 : decode cX9_takenAlong 41 = .ok (.iaload, 1) := by decide +kernel
theorem dX9_takenAlong_42 : decode cX9_takenAlong 42 = .ok (.iload_n 3, 1) := by decide +kernel
theorem dX9_takenAlong_43 : decode cX9_takenAlong 43 = .ok (.if_icmp .gt 27, 3) := by decide +kernel
theorem dX9_takenAlong_46 : decode cX9_takenAlong 46 = .ok (.aload_n 0, 1) := by decide +kernel
theorem dX9_takenAlong_47 : decode cX9_takenAlong 47 = .ok (.iload 5, 2) := by decide +kernel
theorem dX9_takenAlong_49 : decode cX9_takenAlong 49 = .ok (.iload 4, 2) := by decide +kernel
theorem dX9_takenAlong_51 : decode cX9_takenAlong 51 = .ok (.iload_n 2, 1) := by decide +kernel
theorem dX9_takenAlong_52 : decode cX9_takenAlong 52 = .ok (.invokevirtual 341, 3) := by decide +kernel
theorem dX9_takenAlong_55 : decode cX9_takenAlong 55 = .ok (.ifCond .ne 6, 3) := by decide +kernel
theorem dX9_takenAlong_58 : decode cX9_takenAlong 58 = .ok (.goto 12, 3) := by decide +kernel
theorem dX9_takenAlong_61 : decode cX9_takenAlong 61 = .ok (.aload_n 0, 1) := by decide +kernel
theorem dX9_takenAlong_62 : decode cX9_takenAlong 62 = .ok (.iload 4, 2) := by decide +kernel
theorem dX9_takenAlong_64 : decode cX9_takenAlong 64 = .ok (.putfield 178, 3) := by decide +kernel
theorem dX9_takenAlong_67 : decode cX9_takenAlong 67 = .ok (.iload 5, 2) := by decide +kernel
theorem dX9_takenAlong_69 : decode cX9_takenAlong 69 = .ok (.ireturn, 1) := by decide +kernel
theorem dX9_takenAlong_70 : decode cX9_takenAlong 70 = .ok (.iinc 5 1, 3) := by decide +kernel
theorem dX9_takenAlong_73 : decode cX9_takenAlong 73 = .ok (.goto (-59), 3) := by decide +kernel
theorem dX9_takenAlong_76 : decode cX9_takenAlong 76 = .ok (.iinc 4 1, 3) := by decide +kernel
theorem dX9_takenAlong_79 : decode cX9_takenAlong 79 = .ok (.goto (-76), 3) := by decide +kernel
theorem dX9_takenAlong_82 : decode cX9_takenAlong 82 = .ok (.iconst (-1), 1) := by decide +kernel
theorem dX9_takenAlong_83 : decode cX9_takenAlong 83 = .ok (.ireturn, 1) := by decide +kernel
set_option maxRecDepth 20000 in
theorem ggX9_arrives_X9_takenAlong : GoodIn wsX9_arrives wsX9_takenAlong := goodIn_r _ [11, 12, 13, 5, 14, 15, 16, 10, 17, 18, 19, 20, 21, 22, 23, 24, 25, 26, 27, 28, 29, 30, 31, 32, 33, 34, 4, 35, 36, 37, 38, 39, 40, 41, 42, 43, 44, 45, 46, 47, 48, 49, 50, 51, 52, 53, 54, 55, 56, 57, 58, 59, 60, 61, 62, 63, 64, 65, 66, 67, 68, 69, 70, 71, 72, 73, 74, 75, 76, 77, 78, 79, 80, 81, 82, 83, 84, 85, 86, 87, 88, 89, 90, 91, 92, 93, 94, 95, 96, 97, 98, 99, 100, 101, 102, 103, 104, 105, 106, 107, 108, 109, 110, 111, 112, 113, 114, 115, 116, 117, 118, 119, 120, 121, 122, 123, 124, 125, 126, 127, 128] rfl (by decide +kernel)
set_option maxRecDepth 20000 in
theorem gX9_arrives_X9_takenAlong : GoodIn wsX9_arrives (wsV RX9 344 RX9 yX9_takenAlong wsX9_takenAlong) := goodIn_app (goodIn_of _ (by decide +kernel)) ggX9_arrives_X9_takenAlong
theorem dX9_arrives_0 : decode cX9_arrives 0 = .ok (.iload_n 1, 1) := by decide +kernel
theorem dX9_arrives_1 : decode cX9_arrives 1 = .ok (.istore 4, 2) := by decide +kernel
theorem dX9_arrives_3 : decode cX9_arrives 3 = .ok (.iload_n 2, 1) := by decide +kernel
theorem dX9_arrives_4 : decode cX9_arrives 4 = .ok (.istore 5, 2) := by decide +kernel
theorem dX9_arrives_6 : decode cX9_arrives 6 = .ok (.aload_n 0, 1) := by decide +kernel
theorem dX9_arrives_7 : decode cX9_arrives 7 = .ok (.iconst 0, 1) := by decide +kernel
theorem dX9_arrives_8 : decode cX9_arrives 8 = .ok (.putfield 175, 3) := by decide +kernel
theorem dX9_arrives_11 : decode cX9_arrives 11 = .ok (.iload 4, 2) := by decide +kernel
theorem dX9_arrives_13 : decode cX9_arrives 13 = .ok (.aload_n 0, 1) := by decide +kernel
theorem dX9_arrives_14 : decode cX9_arrives 14 = .ok (.getfield 41, 3) := by decide +kernel
theorem dX9_arrives_17 : decode cX9_arrives 17 = .ok (.if_icmp .eq 82, 3) := by decide +kernel
theorem dX9_arrives_20 : decode cX9_arrives 20 = .ok (.aload_n 0, 1) := by decide +kernel
theorem dX9_arrives_21 : decode cX9_arrives 21 = .ok (.getfield 175, 3) := by decide +kernel
theorem dX9_arrives_24 : decode cX9_arrives 24 = .ok (.bipush 20, 2) := by decide +kernel
theorem dX9_arrives_26 : decode cX9_arrives 26 = .ok (.if_icmp .ne 7, 3) := by decide +kernel
theorem dX9_arrives_29 : decode cX9_arrives 29 = .ok (.iconst (-1), 1) := by decide +kernel
theorem dX9_arrives_30 : decode cX9_arrives 30 = .ok (.goto 12, 3) := by decide +kernel
theorem dX9_arrives_33 : decode cX9_arrives 33 = .ok (.aload_n 0, 1) := by decide +kernel
theorem dX9_arrives_34 : decode cX9_arrives 34 = .ok (.iload 4, 2) := by decide +kernel
theorem dX9_arrives_36 : decode cX9_arrives 36 = .ok (.iload 5, 2) := by decide +kernel
theorem dX9_arrives_38 : decode cX9_arrives 38 = .ok (.iload_n 3, 1) := by decide +kernel
theorem dX9_arrives_39 : decode cX9_arrives 39 = .ok (.invokevirtual 344, 3) := by decide +kernel
theorem dX9_arrives_42 : decode cX9_arrives 42 = .ok (.istore 6, 2) := by decide +kernel
theorem dX9_arrives_44 : decode cX9_arrives 44 = .ok (.iload 6, 2) := by decide +kernel
theorem dX9_arrives_46 : decode cX9_arrives 46 = .ok (.ifCond .ge 6, 3) := by decide +kernel
theorem dX9_arrives_49 : decode cX9_arrives 49 = .ok (.bipush (-2), 2) := by decide +kernel
theorem dX9_arrives_51 : decode cX9_arrives 51 = .ok (.ireturn, 1) := by decide +kernel
theorem dX9_arrives_52 : decode cX9_arrives 52 = .ok (.aload_n 0, 1) := by decide +kernel
theorem dX9_arrives_53 : decode cX9_arrives 53 = .ok (.getfield 172, 3) := by decide +kernel
theorem dX9_arrives_56 : decode cX9_arrives 56 = .ok (.aload_n 0, 1) := by decide +kernel
theorem dX9_arrives_57 : decode cX9_arrives 57 = .ok (.getfield 175, 3) := by decide +kernel
theorem dX9_arrives_60 : decode cX9_arrives 60 = .ok (.iload 6, 2) := by decide +kernel
theorem dX9_arrives_62 : decode cX9_arrives 62 = .ok (.iastore, 1) := by decide +kernel
theorem dX9_arrives_63 : decode cX9_arrives 63 = .ok (.aload_n 0, 1) := by decide +kernel
theorem dX9_arrives_64 : decode cX9_arrives 64 = .ok (.dup, 1) := by decide +kernel
theorem dX9_arrives_65 : decode cX9_arrives 65 = .ok (.getfield 175, 3) := by decide +kernel
theorem dX9_arrives_68 : decode cX9_arrives 68 = .ok (.iconst 1, 1) := by decide +kernel
theorem dX9_arrives_69 : decode cX9_arrives 69 = .ok (.iadd, 1) := by decide +kernel
theorem dX9_arrives_70 : decode cX9_arrives 70 = .ok (.putfield 175, 3) := by decide +kernel
theorem dX9_arrives_73 : decode cX9_arrives 73 = .ok (.aload_n 0, 1) := by decide +kernel
theorem dX9_arrives_74 : decode cX9_arrives 74 = .ok (.getfield 26, 3) := by decide +kernel
theorem dX9_arrives_77 : decode cX9_arrives 77 = .ok (.iload 6, 2) := by decide +kernel
theorem dX9_arrives_79 : decode cX9_arrives 79 = .ok (.iaload, 1) := by decide +kernel
theorem dX9_arrives_80 : decode cX9_arrives 80 = .ok (.istore 4, 2) := by decide +kernel
theorem dX9_arrives_82 : decode cX9_arrives 82 = .ok (.aload_n 0, 1) := by decide +kernel
theorem dX9_arrives_83 : decode cX9_arrives 83 = .ok (.getfield 178, 3) := by decide +kernel
theorem dX9_arrives_86 : decode cX9_arrives 86 = .ok (.aload_n 0, 1) := by decide +kernel
theorem dX9_arrives_87 : decode cX9_arrives 87 = .ok (.getfield 32, 3) := by decide +kernel
theorem dX9_arrives_90 : decode cX9_arrives 90 = .ok (.iload 6, 2) := by decide +kernel
theorem dX9_arrives_92 : decode cX9_arrives 92 = .ok (.iaload, 1) := by decide +kernel
theorem dX9_arrives_93 : decode cX9_arrives 93 = .ok (.iadd, 1) := by decide +kernel
theorem dX9_arrives_94 : decode cX9_arrives 94 = .ok (.istore 5, 2) := by decide +kernel
theorem dX9_arrives_96 : decode cX9_arrives 96 = .ok (.goto (-85), 3) := by decide +kernel
theorem dX9_arrives_99 : decode cX9_arrives 99 = .ok (.iload 5, 2) := by decide +kernel
theorem dX9_arrives_101 : decode cX9_arrives 101 = .ok (.ireturn, 1) := by decide +kernel
set_option maxRecDepth 20000 in
theorem ggX9_isTime_X9_isPlace : GoodIn wsX9_isTime wsX9_isPlace := goodIn_r _ [5, 6, 7, 8, 9, 4, 10, 15, 16, 17, 18, 19, 20, 21, 22, 23, 24, 25, 26, 27, 28, 29, 30, 31, 32, 33, 34, 35, 36, 37, 38, 39, 40, 41, 42, 43, 44, 45, 46, 47, 48, 49, 50, 51, 52, 53, 54, 55, 56, 57, 58, 59, 60, 61, 62, 63, 64, 65, 66, 67, 68, 69, 70, 71, 72, 73, 74, 75, 76, 77, 78, 79] rfl (by decide +kernel)
set_option maxRecDepth 20000 in
theorem gX9_isTime_X9_isPlace : GoodIn wsX9_isTime (wsV RX9 213 RX9 yX9_isPlace wsX9_isPlace) := goodIn_app (goodIn_of _ (by decide +kernel)) ggX9_isTime_X9_isPlace
set_option maxRecDepth 20000 in
theorem ggX9_isTime_X9_isMinute : GoodIn wsX9_isTime wsX9_isMinute := goodIn_r _ [14, 7, 8, 9, 4, 10] rfl (by decide +kernel)
set_option maxRecDepth 20000 in
theorem gX9_isTime_X9_isMinute : GoodIn wsX9_isTime (wsV RX9 332 RX9 yX9_isMinute wsX9_isMinute) := goodIn_app (goodIn_of _ (by decide +kernel)) ggX9_isTime_X9_isMinute
theorem dX9_isTime_0 : decode cX9_isTime 0 = .ok (.iload_n 1, 1) := by decide +kernel
theorem dX9_isTime_1 : decode cX9_isTime 1 = .ok (.ifCond .lt 31, 3) := by decide +kernel
theorem dX9_isTime_4 : decode cX9_isTime 4 = .ok (.aload_n 0, 1) := by decide +kernel
theorem dX9_isTime_5 : decode cX9_isTime 5 = .ok (.iload_n 1, 1) := by decide +kernel
theorem dX9_isTime_6 : decode cX9_isTime 6 = .ok (.sipush 10000, 3) := by decide +kernel
theorem dX9_isTime_9 : decode cX9_isTime 9 = .ok (.idiv, 1) := by decide +kernel
theorem dX9_isTime_10 : decode cX9_isTime 10 = .ok (.invokevirtual 213, 3) := by decide +kernel
theorem dX9_isTime_13 : decode cX9_isTime 13 = .ok (.ifCond .eq 19, 3) := by decide +kernel
theorem dX9_isTime_16 : decode cX9_isTime 16 = .ok (.aload_n 0, 1) := by decide +kernel
theorem dX9_isTime_17 : decode cX9_isTime 17 = .ok (.iload_n 1, 1) := by decide +kernel
theorem dX9_isTime_18 : decode cX9_isTime 18 = .ok (.sipush 10000, 3) := by decide +kernel
theorem dX9_isTime_21 : decode cX9_isTime 21 = .ok (.irem, 1) := by decide +kernel
theorem dX9_isTime_22 : decode cX9_isTime 22 = .ok (.invokevirtual 332, 3) := by decide +kernel
theorem dX9_isTime_25 : decode cX9_isTime 25 = .ok (.ifCond .eq 7, 3) := by decide +kernel
theorem dX9_isTime_28 : decode cX9_isTime 28 = .ok (.iconst 1, 1) := by decide +kernel
theorem dX9_isTime_29 : decode cX9_isTime 29 = .ok (.goto 4, 3) := by decide +kernel
theorem dX9_isTime_32 : decode cX9_isTime 32 = .ok (.iconst 0, 1) := by decide +kernel
theorem dX9_isTime_33 : decode cX9_isTime 33 = .ok (.ireturn, 1) := by decide +kernel
set_option maxRecDepth 20000 in
theorem ggX9_goes_X9_isTime : GoodIn wsX9_goes wsX9_isTime := goodIn_r _ [8, 9, 10, 11, 7, 12, 13, 14, 15, 16, 17, 18, 19, 20, 21, 112, 113, 114, 115, 116, 117, 118, 119, 120, 121, 122, 123, 124, 125, 126, 127, 128, 129, 130, 131, 132, 133, 134, 135, 136, 137, 138, 139, 140, 141, 142, 143, 144, 145, 146, 147, 148, 149, 150, 151, 152, 153, 154, 155, 156, 157, 158, 159, 160, 161, 162, 163, 164, 165, 166, 167, 168, 169, 170, 171, 172, 173, 174, 175, 176] rfl (by decide +kernel)
set_option maxRecDepth 20000 in
theorem gX9_goes_X9_isTime : GoodIn wsX9_goes (wsV RX9 347 RX9 yX9_isTime wsX9_isTime) := goodIn_app (goodIn_of _ (by decide +kernel)) ggX9_goes_X9_isTime
set_option maxRecDepth 20000 in
theorem ggX9_goes_X9_asIs : GoodIn wsX9_goes wsX9_asIs := goodIn_r _ [25, 26, 27, 28, 29, 30, 31, 32, 33, 112, 113, 114, 115, 116, 117, 118, 119, 120, 121, 122, 123, 124, 125, 126, 127, 128, 129, 130, 131, 132, 133, 134, 135, 136, 137, 138, 139, 140, 141, 142, 143, 144, 145, 146, 147, 148, 149, 150, 151, 152, 153, 154, 155, 156, 157, 158, 159, 160, 161, 162, 163, 164, 165, 166, 167, 168, 169, 170, 171, 172, 173, 174, 175, 176] rfl (by decide +kernel)
set_option maxRecDepth 20000 in
theorem gX9_goes_X9_asIs : GoodIn wsX9_goes (wsV RX9 316 RX9 yX9_asIs wsX9_asIs) := goodIn_app (goodIn_of _ (by decide +kernel)) ggX9_goes_X9_asIs
set_option maxRecDepth 20000 in
theorem ggX9_goes_X9_layStops : GoodIn wsX9_goes wsX9_layStops := goodIn_r _ [37, 38, 39, 40, 41, 42, 43, 7, 44, 27, 45, 29, 46, 47, 48, 49, 50, 51, 52, 53, 54, 55, 56, 57, 58, 33, 59, 60, 61, 62, 63, 64, 65, 66, 67, 68, 69, 70, 71, 72, 73, 74, 75, 76, 77, 78, 79, 80, 81, 82, 83, 31, 112, 113, 114, 115, 116, 117, 118, 119, 120, 121, 122, 123, 124, 125, 126, 127, 128, 129, 130, 131, 132, 133, 134, 135, 136, 137, 138, 139, 140, 141, 142, 143, 144, 145, 146, 147, 148, 149, 150, 151, 152, 153, 154, 155, 156, 157, 158, 159, 160, 161, 162, 163, 164, 165, 166, 167, 168, 169, 170, 171, 172, 173, 174, 175, 176] rfl (by decide +kernel)
set_option maxRecDepth 20000 in
theorem gX9_goes_X9_layStops : GoodIn wsX9_goes (wsV RX9 335 RX9 yX9_layStops wsX9_layStops) := goodIn_app (goodIn_of _ (by decide +kernel)) ggX9_goes_X9_layStops
set_option maxRecDepth 20000 in
theorem ggX9_goes_X9_layAway : GoodIn wsX9_goes wsX9_layAway := goodIn_r _ [87, 88, 38, 58, 89, 55, 9, 10, 11, 7, 12, 13, 14, 15, 16, 17, 112, 113, 114, 115, 116, 117, 118, 119, 120, 121, 122, 123, 124, 125, 126, 127, 128, 129, 130, 131, 132, 133, 134, 135, 136, 137, 138, 139, 140, 141, 142, 143, 144, 145, 146, 147, 148, 149, 150, 151, 152, 153, 154, 155, 156, 157, 158, 159, 160, 161, 162, 163, 164, 165, 166, 167, 168, 169, 170, 171, 172, 173, 174, 175, 176] rfl (by decide +kernel)
set_option maxRecDepth 20000 in
theorem gX9_goes_X9_layAway : GoodIn wsX9_goes (wsV RX9 319 RX9 yX9_layAway wsX9_layAway) := goodIn_app (goodIn_of _ (by decide +kernel)) ggX9_goes_X9_layAway
set_option maxRecDepth 20000 in
theorem ggX9_goes_X9_arrives : GoodIn wsX9_goes wsX9_arrives := goodIn_r _ [93, 2, 1, 3, 58, 94, 89, 95, 96, 97, 7, 98, 38, 59, 99, 100, 101, 102, 55, 40, 103, 104, 105, 106, 39, 47, 48, 49, 50, 107, 108, 109, 110, 111, 88, 45, 51, 52, 53, 54, 56, 57, 29, 46, 33, 60, 61, 62, 63, 64, 65, 66, 67, 68, 69, 70, 71, 72, 73, 74, 75, 76, 77, 78, 112, 113, 114, 115, 116, 117, 118, 119, 120, 121, 122, 123, 124, 125, 126, 127, 128, 129, 130, 131, 132, 133, 134, 135, 136, 137, 138, 139, 140, 141, 142, 143, 144, 145, 146, 147, 148, 149, 150, 151, 152, 153, 154, 155, 156, 157, 158, 159, 160, 161, 162, 163, 164, 165, 166, 167, 168, 169, 170, 171, 172, 173, 174, 175, 176] rfl (by decide +kernel)
set_option maxRecDepth 20000 in
theorem gX9_goes_X9_arrives : GoodIn wsX9_goes (wsV RX9 350 RX9 yX9_arrives wsX9_arrives) := goodIn_app (goodIn_of _ (by decide +kernel)) ggX9_goes_X9_arrives
theorem dX9_goes_0 : decode cX9_goes 0 = .ok (.aload_n 0, 1) := by decide +kernel
theorem dX9_goes_1 : decode cX9_goes 1 = .ok (.iload_n 1, 1) := by decide +kernel
theorem dX9_goes_2 : decode cX9_goes 2 = .ok (.invokevirtual 347, 3) := by decide +kernel
theorem dX9_goes_5 : decode cX9_goes 5 = .ok (.ifCond .eq 8, 3) := by decide +kernel
theorem dX9_goes_8 : decode cX9_goes 8 = .ok (.iload_n 2, 1) := by decide +kernel
theorem dX9_goes_9 : decode cX9_goes 9 = .ok (.iconst (-1), 1) := by decide +kernel
theorem dX9_goes_10 : decode cX9_goes 10 = .ok (.if_icmp .ge 5, 3) := by decide +kernel
theorem dX9_goes_13 : decode cX9_goes 13 = .ok (.iconst (-1), 1) := by decide +kernel
theorem dX9_goes_14 : decode cX9_goes 14 = .ok (.ireturn, 1) := by decide +kernel
theorem dX9_goes_15 : decode cX9_goes 15 = .ok (.aload_n 0, 1) := by decide +kernel
theorem dX9_goes_16 : decode cX9_goes 16 = .ok (.invokevirtual 316, 3) := by decide +kernel
theorem dX9_goes_19 : decode cX9_goes 19 = .ok (.aload_n 0, 1) := by decide +kernel
theorem dX9_goes_20 : decode cX9_goes 20 = .ok (.invokevirtual 335, 3) := by decide +kernel
theorem dX9_goes_23 : decode cX9_goes 23 = .ok (.aload_n 0, 1) := by decide +kernel
theorem dX9_goes_24 : decode cX9_goes 24 = .ok (.aload_n 0, 1) := by decide +kernel
theorem dX9_goes_25 : decode cX9_goes 25 = .ok (.getfield 41, 3) := by decide +kernel
theorem dX9_goes_28 : decode cX9_goes 28 = .ok (.invokevirtual 319, 3) := by decide +kernel
theorem dX9_goes_31 : decode cX9_goes 31 = .ok (.aload_n 0, 1) := by decide +kernel
theorem dX9_goes_32 : decode cX9_goes 32 = .ok (.iload_n 1, 1) := by decide +kernel
theorem dX9_goes_33 : decode cX9_goes 33 = .ok (.sipush 10000, 3) := by decide +kernel
theorem dX9_goes_36 : decode cX9_goes 36 = .ok (.idiv, 1) := by decide +kernel
theorem dX9_goes_37 : decode cX9_goes 37 = .ok (.iload_n 1, 1) := by decide +kernel
theorem dX9_goes_38 : decode cX9_goes 38 = .ok (.sipush 10000, 3) := by decide +kernel
theorem dX9_goes_41 : decode cX9_goes 41 = .ok (.irem, 1) := by decide +kernel
theorem dX9_goes_42 : decode cX9_goes 42 = .ok (.bipush 99, 2) := by decide +kernel
theorem dX9_goes_44 : decode cX9_goes 44 = .ok (.invokevirtual 350, 3) := by decide +kernel
theorem dX9_goes_47 : decode cX9_goes 47 = .ok (.istore_n 3, 1) := by decide +kernel
theorem dX9_goes_48 : decode cX9_goes 48 = .ok (.iload_n 2, 1) := by decide +kernel
theorem dX9_goes_49 : decode cX9_goes 49 = .ok (.ifCond .ge 7, 3) := by decide +kernel
theorem dX9_goes_52 : decode cX9_goes 52 = .ok (.iload_n 3, 1) := by decide +kernel
theorem dX9_goes_53 : decode cX9_goes 53 = .ok (.goto 21, 3) := by decide +kernel
theorem dX9_goes_56 : decode cX9_goes 56 = .ok (.iload_n 2, 1) := by decide +kernel
theorem dX9_goes_57 : decode cX9_goes 57 = .ok (.aload_n 0, 1) := by decide +kernel
theorem dX9_goes_58 : decode cX9_goes 58 = .ok (.getfield 175, 3) := by decide +kernel
theorem dX9_goes_61 : decode cX9_goes 61 = .ok (.if_icmp .ge 12, 3) := by decide +kernel
theorem dX9_goes_64 : decode cX9_goes 64 = .ok (.aload_n 0, 1) := by decide +kernel
theorem dX9_goes_65 : decode cX9_goes 65 = .ok (.getfield 172, 3) := by decide +kernel
theorem dX9_goes_68 : decode cX9_goes 68 = .ok (.iload_n 2, 1) := by decide +kernel
theorem dX9_goes_69 : decode cX9_goes 69 = .ok (.iaload, 1) := by decide +kernel
theorem dX9_goes_70 : decode cX9_goes 70 = .ok (.goto 4, 3) := by decide +kernel
theorem dX9_goes_73 : decode cX9_goes 73 = .ok (.iconst (-1), 1) := by decide +kernel
theorem dX9_goes_74 : decode cX9_goes 74 = .ok (.ireturn, 1) := by decide +kernel
theorem dX9_divisor_0 : decode cX9_divisor 0 = .ok (.iload_n 1, 1) := by decide +kernel
theorem dX9_divisor_1 : decode cX9_divisor 1 = .ok (.istore_n 3, 1) := by decide +kernel
theorem dX9_divisor_2 : decode cX9_divisor 2 = .ok (.iload_n 2, 1) := by decide +kernel
theorem dX9_divisor_3 : decode cX9_divisor 3 = .ok (.istore 4, 2) := by decide +kernel
theorem dX9_divisor_5 : decode cX9_divisor 5 = .ok (.iload 4, 2) := by decide +kernel
theorem dX9_divisor_7 : decode cX9_divisor 7 = .ok (.ifCond .eq 19, 3) := by decide +kernel
theorem dX9_divisor_10 : decode cX9_divisor 10 = .ok (.iload_n 3, 1) := by decide +kernel
theorem dX9_divisor_11 : decode cX9_divisor 11 = .ok (.iload 4, 2) := by decide +kernel
theorem dX9_divisor_13 : decode cX9_divisor 13 = .ok (.irem, 1) := by decide +kernel
theorem dX9_divisor_14 : decode cX9_divisor 14 = .ok (.istore 5, 2) := by decide +kernel
theorem dX9_divisor_16 : decode cX9_divisor 16 = .ok (.iload 4, 2) := by decide +kernel
theorem dX9_divisor_18 : decode cX9_divisor 18 = .ok (.istore_n 3, 1) := by decide +kernel
theorem dX9_divisor_19 : decode cX9_divisor 19 = .ok (.iload 5, 2) := by decide +kernel
theorem dX9_divisor_21 : decode cX9_divisor 21 = .ok (.istore 4, 2) := by decide +kernel
theorem dX9_divisor_23 : decode cX9_divisor 23 = .ok (.goto (-18), 3) := by decide +kernel
theorem dX9_divisor_26 : decode cX9_divisor 26 = .ok (.iload_n 3, 1) := by decide +kernel
theorem dX9_divisor_27 : decode cX9_divisor 27 = .ok (.ireturn, 1) := by decide +kernel
set_option maxRecDepth 20000 in
theorem ggX9_lowest_X9_divisor : GoodIn wsX9_lowest wsX9_divisor := goodIn_r _ [5] rfl (by decide +kernel)
set_option maxRecDepth 20000 in
theorem gX9_lowest_X9_divisor : GoodIn wsX9_lowest (wsV RX9 353 RX9 yX9_divisor wsX9_divisor) := goodIn_app (goodIn_of _ (by decide +kernel)) ggX9_lowest_X9_divisor
theorem dX9_lowest_0 : decode cX9_lowest 0 = .ok (.aload_n 0, 1) := by decide +kernel
theorem dX9_lowest_1 : decode cX9_lowest 1 = .ok (.iload_n 1, 1) := by decide +kernel
theorem dX9_lowest_2 : decode cX9_lowest 2 = .ok (.iload_n 2, 1) := by decide +kernel
theorem dX9_lowest_3 : decode cX9_lowest 3 = .ok (.invokevirtual 353, 3) := by decide +kernel
theorem dX9_lowest_6 : decode cX9_lowest 6 = .ok (.istore 4, 2) := by decide +kernel
theorem dX9_lowest_8 : decode cX9_lowest 8 = .ok (.iload_n 3, 1) := by decide +kernel
theorem dX9_lowest_9 : decode cX9_lowest 9 = .ok (.ifCond .ne 10, 3) := by decide +kernel
theorem dX9_lowest_12 : decode cX9_lowest 12 = .ok (.iload_n 1, 1) := by decide +kernel
theorem dX9_lowest_13 : decode cX9_lowest 13 = .ok (.iload 4, 2) := by decide +kernel
theorem dX9_lowest_15 : decode cX9_lowest 15 = .ok (.idiv, 1) := by decide +kernel
theorem dX9_lowest_16 : decode cX9_lowest 16 = .ok (.goto 7, 3) := by decide +kernel
theorem dX9_lowest_19 : decode cX9_lowest 19 = .ok (.iload_n 2, 1) := by decide +kernel
theorem dX9_lowest_20 : decode cX9_lowest 20 = .ok (.iload 4, 2) := by decide +kernel
theorem dX9_lowest_22 : decode cX9_lowest 22 = .ok (.idiv, 1) := by decide +kernel
theorem dX9_lowest_23 : decode cX9_lowest 23 = .ok (.ireturn, 1) := by decide +kernel
set_option maxRecDepth 20000 in
theorem ggX9_here_X9_isTime : GoodIn wsX9_here wsX9_isTime := goodIn_r _ [7, 8, 9, 10, 6, 11, 12, 13, 14, 15, 16, 17, 18, 19, 20, 105, 106, 107, 108, 109, 110, 111, 112, 113, 114, 115, 116, 117, 118, 119, 120, 121, 122, 123, 124, 125, 126, 127, 128, 129, 130, 131, 132, 133, 134, 135, 136, 137, 138, 139, 140, 141, 142, 143, 144, 145, 146, 147, 148, 149, 150, 151, 152, 153, 154, 155, 156, 157, 158, 159, 160, 161, 162, 163, 164, 165, 166, 167, 168, 169] rfl (by decide +kernel)
set_option maxRecDepth 20000 in
theorem gX9_here_X9_isTime : GoodIn wsX9_here (wsV RX9 347 RX9 yX9_isTime wsX9_isTime) := goodIn_app (goodIn_of _ (by decide +kernel)) ggX9_here_X9_isTime
set_option maxRecDepth 20000 in
theorem ggX9_here_X9_within : GoodIn wsX9_here wsX9_within := goodIn_r _ [16] rfl (by decide +kernel)
set_option maxRecDepth 20000 in
theorem gX9_here_X9_within : GoodIn wsX9_here (wsV RX9 209 RX9 yX9_within wsX9_within) := goodIn_app (goodIn_of _ (by decide +kernel)) ggX9_here_X9_within
set_option maxRecDepth 20000 in
theorem ggX9_here_X9_isMinute : GoodIn wsX9_here wsX9_isMinute := goodIn_r _ [20, 13, 14, 15, 6, 16] rfl (by decide +kernel)
set_option maxRecDepth 20000 in
theorem gX9_here_X9_isMinute : GoodIn wsX9_here (wsV RX9 332 RX9 yX9_isMinute wsX9_isMinute) := goodIn_app (goodIn_of _ (by decide +kernel)) ggX9_here_X9_isMinute
set_option maxRecDepth 20000 in
theorem ggX9_here_X9_asIs : GoodIn wsX9_here wsX9_asIs := goodIn_r _ [24, 25, 26, 27, 28, 1, 2, 29, 30, 105, 106, 107, 108, 109, 110, 111, 112, 113, 114, 115, 116, 117, 118, 119, 120, 121, 122, 123, 124, 125, 126, 127, 128, 129, 130, 131, 132, 133, 134, 135, 136, 137, 138, 139, 140, 141, 142, 143, 144, 145, 146, 147, 148, 149, 150, 151, 152, 153, 154, 155, 156, 157, 158, 159, 160, 161, 162, 163, 164, 165, 166, 167, 168, 169] rfl (by decide +kernel)
set_option maxRecDepth 20000 in
theorem gX9_here_X9_asIs : GoodIn wsX9_here (wsV RX9 316 RX9 yX9_asIs wsX9_asIs) := goodIn_app (goodIn_of _ (by decide +kernel)) ggX9_here_X9_asIs
set_option maxRecDepth 20000 in
theorem ggX9_here_X9_layStops : GoodIn wsX9_here wsX9_layStops := goodIn_r _ [34, 35, 36, 37, 38, 39, 40, 6, 41, 26, 42, 28, 43, 44, 45, 46, 47, 48, 49, 50, 51, 52, 53, 54, 55, 30, 56, 57, 58, 59, 60, 61, 62, 63, 64, 65, 66, 67, 68, 69, 70, 71, 72, 73, 74, 75, 76, 77, 78, 79, 80, 2, 105, 106, 107, 108, 109, 110, 111, 112, 113, 114, 115, 116, 117, 118, 119, 120, 121, 122, 123, 124, 125, 126, 127, 128, 129, 130, 131, 132, 133, 134, 135, 136, 137, 138, 139, 140, 141, 142, 143, 144, 145, 146, 147, 148, 149, 150, 151, 152, 153, 154, 155, 156, 157, 158, 159, 160, 161, 162, 163, 164, 165, 166, 167, 168, 169] rfl (by decide +kernel)
set_option maxRecDepth 20000 in
theorem gX9_here_X9_layStops : GoodIn wsX9_here (wsV RX9 335 RX9 yX9_layStops wsX9_layStops) := goodIn_app (goodIn_of _ (by decide +kernel)) ggX9_here_X9_layStops
set_option maxRecDepth 20000 in
theorem ggX9_here_X9_waitAt : GoodIn wsX9_here wsX9_waitAt := goodIn_r _ [84, 85, 86, 87, 6, 88, 35, 89, 90, 91, 92, 52, 37, 93, 94, 95, 96, 36, 44, 45, 46, 47, 105, 106, 107, 108, 109, 110, 111, 112, 113, 114, 115, 116, 117, 118, 119, 120, 121, 122, 123, 124, 125, 126, 127, 128, 129, 130, 131, 132, 133, 134, 135, 136, 137, 138, 139, 140, 141, 142, 143, 144, 145, 146, 147, 148, 149, 150, 151, 152, 153, 154, 155, 156, 157, 158, 159, 160, 161, 162, 163, 164, 165, 166, 167, 168, 169] rfl (by decide +kernel)
set_option maxRecDepth 20000 in
theorem gX9_here_X9_waitAt : GoodIn wsX9_here (wsV RX9 338 RX9 yX9_waitAt wsX9_waitAt) := goodIn_app (goodIn_of _ (by decide +kernel)) ggX9_here_X9_waitAt
set_option maxRecDepth 20000 in
theorem ggX9_here_X9_lowest : GoodIn wsX9_here wsX9_lowest := goodIn_r _ [100, 101, 102, 103, 6, 104] rfl (by decide +kernel)
set_option maxRecDepth 20000 in
theorem gX9_here_X9_lowest : GoodIn wsX9_here (wsV RX9 356 RX9 yX9_lowest wsX9_lowest) := goodIn_app (goodIn_of _ (by decide +kernel)) ggX9_here_X9_lowest
theorem dX9_here_0 : decode cX9_here 0 = .ok (.aload_n 0, 1) := by decide +kernel
theorem dX9_here_1 : decode cX9_here 1 = .ok (.iload_n 1, 1) := by decide +kernel
theorem dX9_here_2 : decode cX9_here 2 = .ok (.invokevirtual 347, 3) := by decide +kernel
theorem dX9_here_5 : decode cX9_here 5 = .ok (.ifCond .eq 44, 3) := by decide +kernel
theorem dX9_here_8 : decode cX9_here 8 = .ok (.iload_n 2, 1) := by decide +kernel
theorem dX9_here_9 : decode cX9_here 9 = .ok (.ifCond .lt 40, 3) := by decide +kernel
theorem dX9_here_12 : decode cX9_here 12 = .ok (.aload_n 0, 1) := by decide +kernel
theorem dX9_here_13 : decode cX9_here 13 = .ok (.iload_n 2, 1) := by decide +kernel
theorem dX9_here_14 : decode cX9_here 14 = .ok (.sipush 10000, 3) := by decide +kernel
theorem dX9_here_17 : decode cX9_here 17 = .ok (.idiv, 1) := by decide +kernel
theorem dX9_here_18 : decode cX9_here 18 = .ok (.iconst 1, 1) := by decide +kernel
theorem dX9_here_19 : decode cX9_here 19 = .ok (.bipush 40, 2) := by decide +kernel
theorem dX9_here_21 : decode cX9_here 21 = .ok (.invokevirtual 209, 3) := by decide +kernel
theorem dX9_here_24 : decode cX9_here 24 = .ok (.ifCond .eq 25, 3) := by decide +kernel
theorem dX9_here_27 : decode cX9_here 27 = .ok (.aload_n 0, 1) := by decide +kernel
theorem dX9_here_28 : decode cX9_here 28 = .ok (.iload_n 2, 1) := by decide +kernel
theorem dX9_here_29 : decode cX9_here 29 = .ok (.sipush 10000, 3) := by decide +kernel
theorem dX9_here_32 : decode cX9_here 32 = .ok (.irem, 1) := by decide +kernel
theorem dX9_here_33 : decode cX9_here 33 = .ok (.invokevirtual 332, 3) := by decide +kernel
theorem dX9_here_36 : decode cX9_here 36 = .ok (.ifCond .eq 13, 3) := by decide +kernel
theorem dX9_here_39 : decode cX9_here 39 = .ok (.aload_n 0, 1) := by decide +kernel
theorem dX9_here_40 : decode cX9_here 40 = .ok (.iload_n 3, 1) := by decide +kernel
theorem dX9_here_41 : decode cX9_here 41 = .ok (.iconst 0, 1) := by decide +kernel
theorem dX9_here_42 : decode cX9_here 42 = .ok (.iconst 1, 1) := by decide +kernel
theorem dX9_here_43 : decode cX9_here 43 = .ok (.invokevirtual 209, 3) := by decide +kernel
theorem dX9_here_46 : decode cX9_here 46 = .ok (.ifCond .ne 5, 3) := by decide +kernel
theorem dX9_here_49 : decode cX9_here 49 = .ok (.iconst (-1), 1) := by decide +kernel
theorem dX9_here_50 : decode cX9_here 50 = .ok (.ireturn, 1) := by decide +kernel
theorem dX9_here_51 : decode cX9_here 51 = .ok (.iload_n 2, 1) := by decide +kernel
theorem dX9_here_52 : decode cX9_here 52 = .ok (.sipush 10000, 3) := by decide +kernel
theorem dX9_here_55 : decode cX9_here 55 = .ok (.idiv, 1) := by decide +kernel
theorem dX9_here_56 : decode cX9_here 56 = .ok (.istore 4, 2) := by decide +kernel
theorem dX9_here_58 : decode cX9_here 58 = .ok (.iconst 0, 1) := by decide +kernel
theorem dX9_here_59 : decode cX9_here 59 = .ok (.istore 5, 2) := by decide +kernel
theorem dX9_here_61 : decode cX9_here 61 = .ok (.aload_n 0, 1) := by decide +kernel
theorem dX9_here_62 : decode cX9_here 62 = .ok (.invokevirtual 316, 3) := by decide +kernel
theorem dX9_here_65 : decode cX9_here 65 = .ok (.iconst 0, 1) := by decide +kernel
theorem dX9_here_66 : decode cX9_here 66 = .ok (.istore 6, 2) := by decide +kernel
theorem dX9_here_68 : decode cX9_here 68 = .ok (.iload 6, 2) := by decide +kernel
theorem dX9_here_70 : decode cX9_here 70 = .ok (.iload 4, 2) := by decide +kernel
theorem dX9_here_72 : decode cX9_here 72 = .ok (.if_icmp .ge 65, 3) := by decide +kernel
theorem dX9_here_75 : decode cX9_here 75 = .ok (.aload_n 0, 1) := by decide +kernel
theorem dX9_here_76 : decode cX9_here 76 = .ok (.aload_n 0, 1) := by decide +kernel
theorem dX9_here_77 : decode cX9_here 77 = .ok (.getfield 56, 3) := by decide +kernel
theorem dX9_here_80 : decode cX9_here 80 = .ok (.iload 6, 2) := by decide +kernel
theorem dX9_here_82 : decode cX9_here 82 = .ok (.iadd, 1) := by decide +kernel
theorem dX9_here_83 : decode cX9_here 83 = .ok (.putfield 163, 3) := by decide +kernel
theorem dX9_here_86 : decode cX9_here 86 = .ok (.aload_n 0, 1) := by decide +kernel
theorem dX9_here_87 : decode cX9_here 87 = .ok (.invokevirtual 335, 3) := by decide +kernel
theorem dX9_here_90 : decode cX9_here 90 = .ok (.aload_n 0, 1) := by decide +kernel
theorem dX9_here_91 : decode cX9_here 91 = .ok (.iload_n 1, 1) := by decide +kernel
theorem dX9_here_92 : decode cX9_here 92 = .ok (.sipush 10000, 3) := by decide +kernel
theorem dX9_here_95 : decode cX9_here 95 = .ok (.idiv, 1) := by decide +kernel
theorem dX9_here_96 : decode cX9_here 96 = .ok (.iload_n 1, 1) := by decide +kernel
theorem dX9_here_97 : decode cX9_here 97 = .ok (.sipush 10000, 3) := by decide +kernel
theorem dX9_here_100 : decode cX9_here 100 = .ok (.irem, 1) := by decide +kernel
theorem dX9_here_101 : decode cX9_here 101 = .ok (.invokevirtual 338, 3) := by decide +kernel
theorem dX9_here_104 : decode cX9_here 104 = .ok (.istore 7, 2) := by decide +kernel
theorem dX9_here_106 : decode cX9_here 106 = .ok (.iload 5, 2) := by decide +kernel
theorem dX9_here_108 : decode cX9_here 108 = .ok (.iload 7, 2) := by decide +kernel
theorem dX9_here_110 : decode cX9_here 110 = .ok (.ifCond .lt 17, 3) := by decide +kernel
theorem dX9_here_113 : decode cX9_here 113 = .ok (.iload 7, 2) := by decide +kernel
theorem dX9_here_115 : decode cX9_here 115 = .ok (.iload_n 2, 1) := by decide +kernel
theorem dX9_here_116 : decode cX9_here 116 = .ok (.sipush 10000, 3) := by decide +kernel
theorem dX9_here_119 : decode cX9_here 119 = .ok (.irem, 1) := by decide +kernel
theorem dX9_here_120 : decode cX9_here 120 = .ok (.if_icmp .gt 7, 3) := by decide +kernel
theorem dX9_here_123 : decode cX9_here 123 = .ok (.iconst 1, 1) := by decide +kernel
theorem dX9_here_124 : decode cX9_here 124 = .ok (.goto 4, 3) := by decide +kernel
theorem dX9_here_127 : decode cX9_here 127 = .ok (.iconst 0, 1) := by decide +kernel
theorem dX9_here_128 : decode cX9_here 128 = .ok (.iadd, 1) := by decide +kernel
theorem dX9_here_129 : decode cX9_here 129 = .ok (.istore 5, 2) := by decide +kernel
theorem dX9_here_131 : decode cX9_here 131 = .ok (.iinc 6 1, 3) := by decide +kernel
theorem dX9_here_134 : decode cX9_here 134 = .ok (.goto (-66), 3) := by decide +kernel
theorem dX9_here_137 : decode cX9_here 137 = .ok (.aload_n 0, 1) := by decide +kernel
theorem dX9_here_138 : decode cX9_here 138 = .ok (.iload 5, 2) := by decide +kernel
theorem dX9_here_140 : decode cX9_here 140 = .ok (.iload 4, 2) := by decide +kernel
theorem dX9_here_142 : decode cX9_here 142 = .ok (.iload_n 3, 1) := by decide +kernel
theorem dX9_here_143 : decode cX9_here 143 = .ok (.invokevirtual 356, 3) := by decide +kernel
theorem dX9_here_146 : decode cX9_here 146 = .ok (.ireturn, 1) := by decide +kernel
set_option maxRecDepth 20000 in
theorem ggX9_dark_X9_isTime : GoodIn wsX9_dark wsX9_isTime := goodIn_r _ [9, 10, 11, 12, 8, 13, 14, 15, 16, 17, 18, 19, 20, 21, 22, 121, 122, 123, 124, 125, 126, 127, 128, 129, 130, 131, 132, 133, 134, 135, 136, 137, 138, 139, 140, 141, 142, 143, 144, 145, 146, 147, 148, 149, 150, 151, 152, 153, 154, 155, 156, 157, 158, 159, 160, 161, 162, 163, 164, 165, 166, 167, 168, 169, 170, 171, 172, 173, 174, 175, 176, 177, 178, 179, 180, 181, 182, 183, 184, 185] rfl (by decide +kernel)
set_option maxRecDepth 20000 in
theorem gX9_dark_X9_isTime : GoodIn wsX9_dark (wsV RX9 347 RX9 yX9_isTime wsX9_isTime) := goodIn_app (goodIn_of _ (by decide +kernel)) ggX9_dark_X9_isTime
set_option maxRecDepth 20000 in
theorem ggX9_dark_X9_within : GoodIn wsX9_dark wsX9_within := goodIn_r _ [18] rfl (by decide +kernel)
set_option maxRecDepth 20000 in
theorem gX9_dark_X9_within : GoodIn wsX9_dark (wsV RX9 209 RX9 yX9_within wsX9_within) := goodIn_app (goodIn_of _ (by decide +kernel)) ggX9_dark_X9_within
set_option maxRecDepth 20000 in
theorem ggX9_dark_X9_asIs : GoodIn wsX9_dark wsX9_asIs := goodIn_r _ [26, 27, 28, 29, 30, 2, 3, 31, 32, 121, 122, 123, 124, 125, 126, 127, 128, 129, 130, 131, 132, 133, 134, 135, 136, 137, 138, 139, 140, 141, 142, 143, 144, 145, 146, 147, 148, 149, 150, 151, 152, 153, 154, 155, 156, 157, 158, 159, 160, 161, 162, 163, 164, 165, 166, 167, 168, 169, 170, 171, 172, 173, 174, 175, 176, 177, 178, 179, 180, 181, 182, 183, 184, 185] rfl (by decide +kernel)
set_option maxRecDepth 20000 in
theorem gX9_dark_X9_asIs : GoodIn wsX9_dark (wsV RX9 316 RX9 yX9_asIs wsX9_asIs) := goodIn_app (goodIn_of _ (by decide +kernel)) ggX9_dark_X9_asIs
set_option maxRecDepth 20000 in
theorem ggX9_dark_X9_layAway : GoodIn wsX9_dark wsX9_layAway := goodIn_r _ [36, 37, 38, 39, 40, 41, 10, 11, 12, 8, 13, 14, 15, 16, 17, 18, 121, 122, 123, 124, 125, 126, 127, 128, 129, 130, 131, 132, 133, 134, 135, 136, 137, 138, 139, 140, 141, 142, 143, 144, 145, 146, 147, 148, 149, 150, 151, 152, 153, 154, 155, 156, 157, 158, 159, 160, 161, 162, 163, 164, 165, 166, 167, 168, 169, 170, 171, 172, 173, 174, 175, 176, 177, 178, 179, 180, 181, 182, 183, 184, 185] rfl (by decide +kernel)
set_option maxRecDepth 20000 in
theorem gX9_dark_X9_layAway : GoodIn wsX9_dark (wsV RX9 319 RX9 yX9_layAway wsX9_layAway) := goodIn_app (goodIn_of _ (by decide +kernel)) ggX9_dark_X9_layAway
set_option maxRecDepth 20000 in
theorem ggX9_dark_X9_layStops : GoodIn wsX9_dark wsX9_layStops := goodIn_r _ [45, 38, 46, 47, 48, 49, 50, 8, 51, 28, 52, 30, 53, 54, 55, 56, 57, 58, 59, 60, 61, 41, 62, 63, 39, 32, 64, 65, 66, 67, 68, 69, 70, 71, 72, 73, 74, 75, 76, 77, 78, 79, 80, 81, 82, 83, 84, 85, 86, 87, 88, 3, 121, 122, 123, 124, 125, 126, 127, 128, 129, 130, 131, 132, 133, 134, 135, 136, 137, 138, 139, 140, 141, 142, 143, 144, 145, 146, 147, 148, 149, 150, 151, 152, 153, 154, 155, 156, 157, 158, 159, 160, 161, 162, 163, 164, 165, 166, 167, 168, 169, 170, 171, 172, 173, 174, 175, 176, 177, 178, 179, 180, 181, 182, 183, 184, 185] rfl (by decide +kernel)
set_option maxRecDepth 20000 in
theorem gX9_dark_X9_layStops : GoodIn wsX9_dark (wsV RX9 335 RX9 yX9_layStops wsX9_layStops) := goodIn_app (goodIn_of _ (by decide +kernel)) ggX9_dark_X9_layStops
set_option maxRecDepth 20000 in
theorem ggX9_dark_X9_arrives : GoodIn wsX9_dark wsX9_arrives := goodIn_r _ [92, 93, 1, 94, 39, 95, 40, 96, 97, 98, 8, 99, 38, 64, 100, 101, 102, 103, 41, 47, 104, 105, 106, 107, 46, 54, 55, 56, 57, 108, 109, 110, 111, 112, 37, 52, 58, 59, 60, 61, 62, 63, 30, 53, 32, 65, 66, 67, 68, 69, 70, 71, 72, 73, 74, 75, 76, 77, 78, 79, 80, 81, 82, 83, 121, 122, 123, 124, 125, 126, 127, 128, 129, 130, 131, 132, 133, 134, 135, 136, 137, 138, 139, 140, 141, 142, 143, 144, 145, 146, 147, 148, 149, 150, 151, 152, 153, 154, 155, 156, 157, 158, 159, 160, 161, 162, 163, 164, 165, 166, 167, 168, 169, 170, 171, 172, 173, 174, 175, 176, 177, 178, 179, 180, 181, 182, 183, 184, 185] rfl (by decide +kernel)
set_option maxRecDepth 20000 in
theorem gX9_dark_X9_arrives : GoodIn wsX9_dark (wsV RX9 350 RX9 yX9_arrives wsX9_arrives) := goodIn_app (goodIn_of _ (by decide +kernel)) ggX9_dark_X9_arrives
set_option maxRecDepth 20000 in
theorem ggX9_dark_X9_lowest : GoodIn wsX9_dark wsX9_lowest := goodIn_r _ [116, 117, 118, 119, 8, 120] rfl (by decide +kernel)
set_option maxRecDepth 20000 in
theorem gX9_dark_X9_lowest : GoodIn wsX9_dark (wsV RX9 356 RX9 yX9_lowest wsX9_lowest) := goodIn_app (goodIn_of _ (by decide +kernel)) ggX9_dark_X9_lowest
theorem dX9_dark_0 : decode cX9_dark 0 = .ok (.aload_n 0, 1) := by decide +kernel
theorem dX9_dark_1 : decode cX9_dark 1 = .ok (.iload_n 1, 1) := by decide +kernel
theorem dX9_dark_2 : decode cX9_dark 2 = .ok (.invokevirtual 347, 3) := by decide +kernel
theorem dX9_dark_5 : decode cX9_dark 5 = .ok (.ifCond .eq 24, 3) := by decide +kernel
theorem dX9_dark_8 : decode cX9_dark 8 = .ok (.aload_n 0, 1) := by decide +kernel
theorem dX9_dark_9 : decode cX9_dark 9 = .ok (.iload_n 2, 1) := by decide +kernel
theorem dX9_dark_10 : decode cX9_dark 10 = .ok (.iconst 1, 1) := by decide +kernel
theorem dX9_dark_11 : decode cX9_dark 11 = .ok (.bipush 40, 2) := by decide +kernel
theorem dX9_dark_13 : decode cX9_dark 13 = .ok (.invokevirtual 209, 3) := by decide +kernel
theorem dX9_dark_16 : decode cX9_dark 16 = .ok (.ifCond .eq 13, 3) := by decide +kernel
theorem dX9_dark_19 : decode cX9_dark 19 = .ok (.aload_n 0, 1) := by decide +kernel
theorem dX9_dark_20 : decode cX9_dark 20 = .ok (.iload_n 3, 1) := by decide +kernel
theorem dX9_dark_21 : decode cX9_dark 21 = .ok (.iconst 0, 1) := by decide +kernel
theorem dX9_dark_22 : decode cX9_dark 22 = .ok (.iconst 1, 1) := by decide +kernel
theorem dX9_dark_23 : decode cX9_dark 23 = .ok (.invokevirtual 209, 3) := by decide +kernel
theorem dX9_dark_26 : decode cX9_dark 26 = .ok (.ifCond .ne 5, 3) := by decide +kernel
theorem dX9_dark_29 : decode cX9_dark 29 = .ok (.iconst (-1), 1) := by decide +kernel
theorem dX9_dark_30 : decode cX9_dark 30 = .ok (.ireturn, 1) := by decide +kernel
theorem dX9_dark_31 : decode cX9_dark 31 = .ok (.iconst 0, 1) := by decide +kernel
theorem dX9_dark_32 : decode cX9_dark 32 = .ok (.istore 4, 2) := by decide +kernel
theorem dX9_dark_34 : decode cX9_dark 34 = .ok (.aload_n 0, 1) := by decide +kernel
theorem dX9_dark_35 : decode cX9_dark 35 = .ok (.invokevirtual 316, 3) := by decide +kernel
theorem dX9_dark_38 : decode cX9_dark 38 = .ok (.aload_n 0, 1) := by decide +kernel
theorem dX9_dark_39 : decode cX9_dark 39 = .ok (.aload_n 0, 1) := by decide +kernel
theorem dX9_dark_40 : decode cX9_dark 40 = .ok (.getfield 41, 3) := by decide +kernel
theorem dX9_dark_43 : decode cX9_dark 43 = .ok (.invokevirtual 319, 3) := by decide +kernel
theorem dX9_dark_46 : decode cX9_dark 46 = .ok (.iconst 0, 1) := by decide +kernel
theorem dX9_dark_47 : decode cX9_dark 47 = .ok (.istore 5, 2) := by decide +kernel
theorem dX9_dark_49 : decode cX9_dark 49 = .ok (.iload 5, 2) := by decide +kernel
theorem dX9_dark_51 : decode cX9_dark 51 = .ok (.iload_n 2, 1) := by decide +kernel
theorem dX9_dark_52 : decode cX9_dark 52 = .ok (.if_icmp .ge 66, 3) := by decide +kernel
theorem dX9_dark_55 : decode cX9_dark 55 = .ok (.aload_n 0, 1) := by decide +kernel
theorem dX9_dark_56 : decode cX9_dark 56 = .ok (.aload_n 0, 1) := by decide +kernel
theorem dX9_dark_57 : decode cX9_dark 57 = .ok (.getfield 56, 3) := by decide +kernel
theorem dX9_dark_60 : decode cX9_dark 60 = .ok (.iload 5, 2) := by decide +kernel
theorem dX9_dark_62 : decode cX9_dark 62 = .ok (.iadd, 1) := by decide +kernel
theorem dX9_dark_63 : decode cX9_dark 63 = .ok (.putfield 163, 3) := by decide +kernel
theorem dX9_dark_66 : decode cX9_dark 66 = .ok (.aload_n 0, 1) := by decide +kernel
theorem dX9_dark_67 : decode cX9_dark 67 = .ok (.invokevirtual 335, 3) := by decide +kernel
theorem dX9_dark_70 : decode cX9_dark 70 = .ok (.aload_n 0, 1) := by decide +kernel
theorem dX9_dark_71 : decode cX9_dark 71 = .ok (.iload_n 1, 1) := by decide +kernel
theorem dX9_dark_72 : decode cX9_dark 72 = .ok (.sipush 10000, 3) := by decide +kernel
theorem dX9_dark_75 : decode cX9_dark 75 = .ok (.idiv, 1) := by decide +kernel
theorem dX9_dark_76 : decode cX9_dark 76 = .ok (.iload_n 1, 1) := by decide +kernel
theorem dX9_dark_77 : decode cX9_dark 77 = .ok (.sipush 10000, 3) := by decide +kernel
theorem dX9_dark_80 : decode cX9_dark 80 = .ok (.irem, 1) := by decide +kernel
theorem dX9_dark_81 : decode cX9_dark 81 = .ok (.bipush 99, 2) := by decide +kernel
theorem dX9_dark_83 : decode cX9_dark 83 = .ok (.invokevirtual 350, 3) := by decide +kernel
theorem dX9_dark_86 : decode cX9_dark 86 = .ok (.istore 6, 2) := by decide +kernel
theorem dX9_dark_88 : decode cX9_dark 88 = .ok (.iload 4, 2) := by decide +kernel
theorem dX9_dark_90 : decode cX9_dark 90 = .ok (.iload 6, 2) := by decide +kernel
theorem dX9_dark_92 : decode cX9_dark 92 = .ok (.ifCond .lt 16, 3) := by decide +kernel
theorem dX9_dark_95 : decode cX9_dark 95 = .ok (.iload 6, 2) := by decide +kernel
theorem dX9_dark_97 : decode cX9_dark 97 = .ok (.aload_n 0, 1) := by decide +kernel
theorem dX9_dark_98 : decode cX9_dark 98 = .ok (.getfield 44, 3) := by decide +kernel
theorem dX9_dark_101 : decode cX9_dark 101 = .ok (.if_icmp .gt 7, 3) := by decide +kernel
theorem dX9_dark_104 : decode cX9_dark 104 = .ok (.iconst 1, 1) := by decide +kernel
theorem dX9_dark_105 : decode cX9_dark 105 = .ok (.goto 4, 3) := by decide +kernel
theorem dX9_dark_108 : decode cX9_dark 108 = .ok (.iconst 0, 1) := by decide +kernel
theorem dX9_dark_109 : decode cX9_dark 109 = .ok (.iadd, 1) := by decide +kernel
theorem dX9_dark_110 : decode cX9_dark 110 = .ok (.istore 4, 2) := by decide +kernel
theorem dX9_dark_112 : decode cX9_dark 112 = .ok (.iinc 5 1, 3) := by decide +kernel
theorem dX9_dark_115 : decode cX9_dark 115 = .ok (.goto (-66), 3) := by decide +kernel
theorem dX9_dark_118 : decode cX9_dark 118 = .ok (.aload_n 0, 1) := by decide +kernel
theorem dX9_dark_119 : decode cX9_dark 119 = .ok (.iload 4, 2) := by decide +kernel
theorem dX9_dark_121 : decode cX9_dark 121 = .ok (.iload_n 2, 1) := by decide +kernel
theorem dX9_dark_122 : decode cX9_dark 122 = .ok (.iload_n 3, 1) := by decide +kernel
theorem dX9_dark_123 : decode cX9_dark 123 = .ok (.invokevirtual 356, 3) := by decide +kernel
theorem dX9_dark_126 : decode cX9_dark 126 = .ok (.ireturn, 1) := by decide +kernel
set_option maxRecDepth 20000 in
theorem ggX9_sign_X9_isTime : GoodIn wsX9_sign wsX9_isTime := goodIn_r _ [9, 10, 11, 12, 8, 13, 3, 14, 15, 16, 17, 18, 19, 20, 21, 113, 114, 115, 116, 117, 118, 119, 120, 121, 122, 123, 124, 125, 126, 127, 128, 129, 130, 131, 132, 133, 134, 135, 136, 137, 138, 139, 140, 141, 142, 143, 144, 145, 146, 147, 148, 149, 150, 151, 152, 153, 154, 155, 156, 157, 158, 159, 160, 161, 162, 163, 164, 165, 166, 167, 168, 169, 170, 171, 172, 173, 174, 175, 176, 177] rfl (by decide +kernel)
set_option maxRecDepth 20000 in
theorem gX9_sign_X9_isTime : GoodIn wsX9_sign (wsV RX9 347 RX9 yX9_isTime wsX9_isTime) := goodIn_app (goodIn_of _ (by decide +kernel)) ggX9_sign_X9_isTime
set_option maxRecDepth 20000 in
theorem ggX9_sign_X9_within : GoodIn wsX9_sign wsX9_within := goodIn_r _ [17] rfl (by decide +kernel)
set_option maxRecDepth 20000 in
theorem gX9_sign_X9_within : GoodIn wsX9_sign (wsV RX9 209 RX9 yX9_within wsX9_within) := goodIn_app (goodIn_of _ (by decide +kernel)) ggX9_sign_X9_within
set_option maxRecDepth 20000 in
theorem ggX9_sign_X9_asIs : GoodIn wsX9_sign wsX9_asIs := goodIn_r _ [25, 26, 27, 28, 29, 30, 31, 32, 4, 113, 114, 115, 116, 117, 118, 119, 120, 121, 122, 123, 124, 125, 126, 127, 128, 129, 130, 131, 132, 133, 134, 135, 136, 137, 138, 139, 140, 141, 142, 143, 144, 145, 146, 147, 148, 149, 150, 151, 152, 153, 154, 155, 156, 157, 158, 159, 160, 161, 162, 163, 164, 165, 166, 167, 168, 169, 170, 171, 172, 173, 174, 175, 176, 177] rfl (by decide +kernel)
set_option maxRecDepth 20000 in
theorem gX9_sign_X9_asIs : GoodIn wsX9_sign (wsV RX9 316 RX9 yX9_asIs wsX9_asIs) := goodIn_app (goodIn_of _ (by decide +kernel)) ggX9_sign_X9_asIs
set_option maxRecDepth 20000 in
theorem ggX9_sign_X9_layAway : GoodIn wsX9_sign wsX9_layAway := goodIn_r _ [36, 37, 38, 39, 40, 41, 10, 11, 12, 8, 13, 3, 14, 15, 16, 17, 113, 114, 115, 116, 117, 118, 119, 120, 121, 122, 123, 124, 125, 126, 127, 128, 129, 130, 131, 132, 133, 134, 135, 136, 137, 138, 139, 140, 141, 142, 143, 144, 145, 146, 147, 148, 149, 150, 151, 152, 153, 154, 155, 156, 157, 158, 159, 160, 161, 162, 163, 164, 165, 166, 167, 168, 169, 170, 171, 172, 173, 174, 175, 176, 177] rfl (by decide +kernel)
set_option maxRecDepth 20000 in
theorem gX9_sign_X9_layAway : GoodIn wsX9_sign (wsV RX9 319 RX9 yX9_layAway wsX9_layAway) := goodIn_app (goodIn_of _ (by decide +kernel)) ggX9_sign_X9_layAway
set_option maxRecDepth 20000 in
theorem ggX9_sign_X9_layStops : GoodIn wsX9_sign wsX9_layStops := goodIn_r _ [45, 38, 46, 47, 48, 49, 50, 8, 51, 27, 52, 29, 53, 54, 55, 56, 57, 58, 59, 60, 61, 41, 62, 63, 39, 4, 64, 65, 66, 67, 68, 69, 70, 71, 72, 73, 74, 75, 76, 77, 78, 79, 80, 81, 82, 83, 84, 85, 86, 87, 88, 31, 113, 114, 115, 116, 117, 118, 119, 120, 121, 122, 123, 124, 125, 126, 127, 128, 129, 130, 131, 132, 133, 134, 135, 136, 137, 138, 139, 140, 141, 142, 143, 144, 145, 146, 147, 148, 149, 150, 151, 152, 153, 154, 155, 156, 157, 158, 159, 160, 161, 162, 163, 164, 165, 166, 167, 168, 169, 170, 171, 172, 173, 174, 175, 176, 177] rfl (by decide +kernel)
set_option maxRecDepth 20000 in
theorem gX9_sign_X9_layStops : GoodIn wsX9_sign (wsV RX9 335 RX9 yX9_layStops wsX9_layStops) := goodIn_app (goodIn_of _ (by decide +kernel)) ggX9_sign_X9_layStops
set_option maxRecDepth 20000 in
theorem ggX9_sign_X9_arrives : GoodIn wsX9_sign wsX9_arrives := goodIn_r _ [92, 93, 2, 94, 39, 95, 40, 96, 97, 98, 8, 99, 38, 64, 100, 101, 102, 103, 41, 47, 104, 105, 106, 107, 46, 54, 55, 56, 57, 108, 109, 110, 111, 112, 37, 52, 58, 59, 60, 61, 62, 63, 29, 53, 4, 65, 66, 67, 68, 69, 70, 71, 72, 73, 74, 75, 76, 77, 78, 79, 80, 81, 82, 83, 113, 114, 115, 116, 117, 118, 119, 120, 121, 122, 123, 124, 125, 126, 127, 128, 129, 130, 131, 132, 133, 134, 135, 136, 137, 138, 139, 140, 141, 142, 143, 144, 145, 146, 147, 148, 149, 150, 151, 152, 153, 154, 155, 156, 157, 158, 159, 160, 161, 162, 163, 164, 165, 166, 167, 168, 169, 170, 171, 172, 173, 174, 175, 176, 177] rfl (by decide +kernel)
set_option maxRecDepth 20000 in
theorem gX9_sign_X9_arrives : GoodIn wsX9_sign (wsV RX9 350 RX9 yX9_arrives wsX9_arrives) := goodIn_app (goodIn_of _ (by decide +kernel)) ggX9_sign_X9_arrives
theorem dX9_sign_0 : decode cX9_sign 0 = .ok (.aload_n 0, 1) := by decide +kernel
theorem dX9_sign_1 : decode cX9_sign 1 = .ok (.iload_n 1, 1) := by decide +kernel
theorem dX9_sign_2 : decode cX9_sign 2 = .ok (.invokevirtual 347, 3) := by decide +kernel
theorem dX9_sign_5 : decode cX9_sign 5 = .ok (.ifCond .eq 13, 3) := by decide +kernel
theorem dX9_sign_8 : decode cX9_sign 8 = .ok (.aload_n 0, 1) := by decide +kernel
theorem dX9_sign_9 : decode cX9_sign 9 = .ok (.iload_n 2, 1) := by decide +kernel
theorem dX9_sign_10 : decode cX9_sign 10 = .ok (.iconst 0, 1) := by decide +kernel
theorem dX9_sign_11 : decode cX9_sign 11 = .ok (.iconst 1, 1) := by decide +kernel
theorem dX9_sign_12 : decode cX9_sign 12 = .ok (.invokevirtual 209, 3) := by decide +kernel
theorem dX9_sign_15 : decode cX9_sign 15 = .ok (.ifCond .ne 6, 3) := by decide +kernel
theorem dX9_sign_18 : decode cX9_sign 18 = .ok (.ldc 232, 2) := by decide +kernel
theorem dX9_sign_20 : decode cX9_sign 20 = .ok (.ireturn, 1) := by decide +kernel
theorem dX9_sign_21 : decode cX9_sign 21 = .ok (.aload_n 0, 1) := by decide +kernel
theorem dX9_sign_22 : decode cX9_sign 22 = .ok (.invokevirtual 316, 3) := by decide +kernel
theorem dX9_sign_25 : decode cX9_sign 25 = .ok (.aload_n 0, 1) := by decide +kernel
theorem dX9_sign_26 : decode cX9_sign 26 = .ok (.aload_n 0, 1) := by decide +kernel
theorem dX9_sign_27 : decode cX9_sign 27 = .ok (.getfield 41, 3) := by decide +kernel
theorem dX9_sign_30 : decode cX9_sign 30 = .ok (.invokevirtual 319, 3) := by decide +kernel
theorem dX9_sign_33 : decode cX9_sign 33 = .ok (.iconst (-1), 1) := by decide +kernel
theorem dX9_sign_34 : decode cX9_sign 34 = .ok (.istore_n 3, 1) := by decide +kernel
theorem dX9_sign_35 : decode cX9_sign 35 = .ok (.bipush (-2), 2) := by decide +kernel
theorem dX9_sign_37 : decode cX9_sign 37 = .ok (.istore 4, 2) := by decide +kernel
theorem dX9_sign_39 : decode cX9_sign 39 = .ok (.iconst (-1), 1) := by decide +kernel
theorem dX9_sign_40 : decode cX9_sign 40 = .ok (.istore 5, 2) := by decide +kernel
theorem dX9_sign_42 : decode cX9_sign 42 = .ok (.iload 5, 2) := by decide +kernel
theorem dX9_sign_44 : decode cX9_sign 44 = .ok (.aload_n 0, 1) := by decide +kernel
theorem dX9_sign_45 : decode cX9_sign 45 = .ok (.getfield 7, 3) := by decide +kernel
theorem dX9_sign_48 : decode cX9_sign 48 = .ok (.if_icmp .ge 64, 3) := by decide +kernel
theorem dX9_sign_51 : decode cX9_sign 51 = .ok (.aload_n 0, 1) := by decide +kernel
theorem dX9_sign_52 : decode cX9_sign 52 = .ok (.iload 5, 2) := by decide +kernel
theorem dX9_sign_54 : decode cX9_sign 54 = .ok (.putfield 166, 3) := by decide +kernel
theorem dX9_sign_57 : decode cX9_sign 57 = .ok (.aload_n 0, 1) := by decide +kernel
theorem dX9_sign_58 : decode cX9_sign 58 = .ok (.invokevirtual 335, 3) := by decide +kernel
theorem dX9_sign_61 : decode cX9_sign 61 = .ok (.aload_n 0, 1) := by decide +kernel
theorem dX9_sign_62 : decode cX9_sign 62 = .ok (.iload_n 1, 1) := by decide +kernel
theorem dX9_sign_63 : decode cX9_sign 63 = .ok (.sipush 10000, 3) := by decide +kernel
theorem dX9_sign_66 : decode cX9_sign 66 = .ok (.idiv, 1) := by decide +kernel
theorem dX9_sign_67 : decode cX9_sign 67 = .ok (.iload_n 1, 1) := by decide +kernel
theorem dX9_sign_68 : decode cX9_sign 68 = .ok (.sipush 10000, 3) := by decide +kernel
theorem dX9_sign_71 : decode cX9_sign 71 = .ok (.irem, 1) := by decide +kernel
theorem dX9_sign_72 : decode cX9_sign 72 = .ok (.bipush 99, 2) := by decide +kernel
theorem dX9_sign_74 : decode cX9_sign 74 = .ok (.invokevirtual 350, 3) := by decide +kernel
theorem dX9_sign_77 : decode cX9_sign 77 = .ok (.istore 6, 2) := by decide +kernel
theorem dX9_sign_79 : decode cX9_sign 79 = .ok (.iload 6, 2) := by decide +kernel
theorem dX9_sign_81 : decode cX9_sign 81 = .ok (.ifCond .lt 25, 3) := by decide +kernel
theorem dX9_sign_84 : decode cX9_sign 84 = .ok (.iload 4, 2) := by decide +kernel
theorem dX9_sign_86 : decode cX9_sign 86 = .ok (.ifCond .lt 13, 3) := by decide +kernel
theorem dX9_sign_89 : decode cX9_sign 89 = .ok (.iload 6, 2) := by decide +kernel
theorem dX9_sign_91 : decode cX9_sign 91 = .ok (.iload 4, 2) := by decide +kernel
theorem dX9_sign_93 : decode cX9_sign 93 = .ok (.if_icmp .lt 6, 3) := by decide +kernel
theorem dX9_sign_96 : decode cX9_sign 96 = .ok (.goto 10, 3) := by decide +kernel
theorem dX9_sign_99 : decode cX9_sign 99 = .ok (.iload 5, 2) := by decide +kernel
theorem dX9_sign_101 : decode cX9_sign 101 = .ok (.istore_n 3, 1) := by decide +kernel
theorem dX9_sign_102 : decode cX9_sign 102 = .ok (.iload 6, 2) := by decide +kernel
theorem dX9_sign_104 : decode cX9_sign 104 = .ok (.istore 4, 2) := by decide +kernel
theorem dX9_sign_106 : decode cX9_sign 106 = .ok (.iinc 5 1, 3) := by decide +kernel
theorem dX9_sign_109 : decode cX9_sign 109 = .ok (.goto (-67), 3) := by decide +kernel
theorem dX9_sign_112 : decode cX9_sign 112 = .ok (.iload_n 2, 1) := by decide +kernel
theorem dX9_sign_113 : decode cX9_sign 113 = .ok (.ifCond .ne 7, 3) := by decide +kernel
theorem dX9_sign_116 : decode cX9_sign 116 = .ok (.iload_n 3, 1) := by decide +kernel
theorem dX9_sign_117 : decode cX9_sign 117 = .ok (.goto 5, 3) := by decide +kernel
theorem dX9_sign_120 : decode cX9_sign 120 = .ok (.iload 4, 2) := by decide +kernel
theorem dX9_sign_122 : decode cX9_sign 122 = .ok (.ireturn, 1) := by decide +kernel
