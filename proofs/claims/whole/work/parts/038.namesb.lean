set_option maxRecDepth 20000 in
theorem ggX8_far_X3_hasPair : GoodIn wsX8_far wsX3_hasPair := goodIn_r _ [7, 8, 9, 10, 6, 11, 12, 53, 54, 55, 56, 57, 58, 59, 60, 61, 62] rfl (by decide +kernel)
set_option maxRecDepth 20000 in
theorem gX8_far_X3_hasPair : GoodIn wsX8_far (wsV RX8 107 RX3 yX3_hasPair wsX3_hasPair) := goodIn_app (goodIn_of _ (by decide +kernel)) ggX8_far_X3_hasPair
set_option maxRecDepth 20000 in
theorem ggX8_far_X3_measureTo : GoodIn wsX8_far wsX3_measureTo := goodIn_r _ [16, 12, 17, 18, 19, 20, 21, 8, 9, 10, 6, 11, 22, 23, 24, 25, 26, 27, 28, 29, 30, 31, 32, 33, 34, 35, 36, 53, 54, 55, 56, 57, 58, 59, 60, 61, 62] rfl (by decide +kernel)
set_option maxRecDepth 20000 in
theorem gX8_far_X3_measureTo : GoodIn wsX8_far (wsV RX8 195 RX3 yX3_measureTo wsX3_measureTo) := goodIn_app (goodIn_of _ (by decide +kernel)) ggX8_far_X3_measureTo
theorem dX8_far_0 : decode cX8_far 0 = .ok (.aload_n 0, 1) := by decide +kernel
theorem dX8_far_1 : decode cX8_far 1 = .ok (.getfield 20, 3) := by decide +kernel
theorem dX8_far_4 : decode cX8_far 4 = .ok (.iload_n 1, 1) := by decide +kernel
theorem dX8_far_5 : decode cX8_far 5 = .ok (.invokevirtual 107, 3) := by decide +kernel
theorem dX8_far_8 : decode cX8_far 8 = .ok (.ifCond .ne 5, 3) := by decide +kernel
theorem dX8_far_11 : decode cX8_far 11 = .ok (.iconst (-1), 1) := by decide +kernel
theorem dX8_far_12 : decode cX8_far 12 = .ok (.ireturn, 1) := by decide +kernel
theorem dX8_far_13 : decode cX8_far 13 = .ok (.aload_n 0, 1) := by decide +kernel
theorem dX8_far_14 : decode cX8_far 14 = .ok (.getfield 20, 3) := by decide +kernel
theorem dX8_far_17 : decode cX8_far 17 = .ok (.iload_n 1, 1) := by decide +kernel
theorem dX8_far_18 : decode cX8_far 18 = .ok (.bipush 10, 2) := by decide +kernel
theorem dX8_far_20 : decode cX8_far 20 = .ok (.irem, 1) := by decide +kernel
theorem dX8_far_21 : decode cX8_far 21 = .ok (.aload_n 0, 1) := by decide +kernel
theorem dX8_far_22 : decode cX8_far 22 = .ok (.getfield 32, 3) := by decide +kernel
theorem dX8_far_25 : decode cX8_far 25 = .ok (.invokevirtual 195, 3) := by decide +kernel
theorem dX8_far_28 : decode cX8_far 28 = .ok (.aload_n 0, 1) := by decide +kernel
theorem dX8_far_29 : decode cX8_far 29 = .ok (.getfield 32, 3) := by decide +kernel
theorem dX8_far_32 : decode cX8_far 32 = .ok (.iload_n 1, 1) := by decide +kernel
theorem dX8_far_33 : decode cX8_far 33 = .ok (.bipush 10, 2) := by decide +kernel
theorem dX8_far_35 : decode cX8_far 35 = .ok (.idiv, 1) := by decide +kernel
theorem dX8_far_36 : decode cX8_far 36 = .ok (.iaload, 1) := by decide +kernel
theorem dX8_far_37 : decode cX8_far 37 = .ok (.ireturn, 1) := by decide +kernel
set_option maxRecDepth 20000 in
theorem ggX8_waits_X3_hasPlace : GoodIn wsX8_waits wsX3_hasPlace := goodIn_r _ [8, 9, 195, 196, 197, 198, 199, 200, 201, 202, 203, 204] rfl (by decide +kernel)
set_option maxRecDepth 20000 in
theorem gX8_waits_X3_hasPlace : GoodIn wsX8_waits (wsV RX8 135 RX3 yX3_hasPlace wsX3_hasPlace) := goodIn_app (goodIn_of _ (by decide +kernel)) ggX8_waits_X3_hasPlace
set_option maxRecDepth 20000 in
theorem ggX8_waits_X8_isMinute : GoodIn wsX8_waits wsX8_isMinute := goodIn_r _ [13] rfl (by decide +kernel)
set_option maxRecDepth 20000 in
theorem gX8_waits_X8_isMinute : GoodIn wsX8_waits (va_wsS RX8 199 yX8_isMinute wsX8_isMinute) := goodIn_app (goodIn_of _ (by decide +kernel)) ggX8_waits_X8_isMinute
set_option maxRecDepth 20000 in
theorem ggX8_waits_X8_prepareTrip : GoodIn wsX8_waits wsX8_prepareTrip := goodIn_r _ [17, 1, 18, 2, 19, 20, 21, 22, 23, 24, 25, 7, 26, 9, 27, 28, 29, 30, 31, 32, 5, 6, 8, 33, 34, 35, 36, 37, 38, 39, 40, 41, 42, 43, 44, 45, 46, 47, 48, 49, 50, 12, 51, 52, 53, 54, 55, 56, 57, 58, 59, 60, 61, 62, 63, 64, 65, 66, 67, 68, 69, 70, 71, 72, 73, 74, 75, 76, 77, 78, 179, 180, 181, 182, 183, 184, 185, 186, 187, 188, 189, 190, 191, 192, 193, 194, 205, 206, 207, 208, 209, 210, 211, 212, 213, 214, 215, 216, 217, 218, 219, 220, 221, 195, 196, 197, 198, 199, 200, 201, 202, 203, 204, 222, 223, 224] rfl (by decide +kernel)
set_option maxRecDepth 20000 in
theorem gX8_waits_X8_prepareTrip : GoodIn wsX8_waits (wsV RX8 186 RX8 yX8_prepareTrip wsX8_prepareTrip) := goodIn_app (goodIn_of _ (by decide +kernel)) ggX8_waits_X8_prepareTrip
set_option maxRecDepth 20000 in
theorem ggX8_waits_X7_stopAfter : GoodIn wsX8_waits wsX7_stopAfter := goodIn_r _ [82, 83, 84, 85, 86, 87, 34, 35, 7, 36, 37, 88, 89, 90, 91, 92, 93, 94, 95, 96, 97, 98, 99, 57, 100, 101, 102, 103, 104, 105, 106, 107, 108, 109, 110, 111, 112, 71, 59, 113, 114, 115, 116, 76, 117, 118, 78, 119, 120, 121, 122, 123, 124, 125, 62, 63, 64, 126, 127, 128, 129, 130, 131, 39, 40, 41, 42, 132, 133, 134, 135, 136, 137, 138, 139, 140, 141, 142, 143, 144, 145, 146, 147, 148, 149, 150, 151, 152, 153, 154, 155, 156, 157, 158, 159, 160, 161, 162, 163, 164, 165, 166, 167, 168, 169, 170, 171, 172, 173, 174, 65, 175, 176, 177, 178, 205, 206, 207, 208, 209, 210, 211, 212, 213, 214, 215, 216, 217, 218, 219, 220, 221, 195, 196, 197, 198, 199, 200, 201, 202, 203, 204, 222, 223, 224, 225, 226, 227, 228] rfl (by decide +kernel)
set_option maxRecDepth 20000 in
theorem gX8_waits_X7_stopAfter : GoodIn wsX8_waits (wsV RX8 202 RX7 yX7_stopAfter wsX7_stopAfter) := goodIn_app (goodIn_of _ (by decide +kernel)) ggX8_waits_X7_stopAfter
theorem dX8_waits_0 : decode cX8_waits 0 = .ok (.aload_n 0, 1) := by decide +kernel
theorem dX8_waits_1 : decode cX8_waits 1 = .ok (.getfield 20, 3) := by decide +kernel
theorem dX8_waits_4 : decode cX8_waits 4 = .ok (.iload_n 1, 1) := by decide +kernel
theorem dX8_waits_5 : decode cX8_waits 5 = .ok (.invokevirtual 135, 3) := by decide +kernel
theorem dX8_waits_8 : decode cX8_waits 8 = .ok (.ifCond .eq 10, 3) := by decide +kernel
theorem dX8_waits_11 : decode cX8_waits 11 = .ok (.iload_n 2, 1) := by decide +kernel
theorem dX8_waits_12 : decode cX8_waits 12 = .ok (.invokestatic 199, 3) := by decide +kernel
theorem dX8_waits_15 : decode cX8_waits 15 = .ok (.ifCond .ne 5, 3) := by decide +kernel
theorem dX8_waits_18 : decode cX8_waits 18 = .ok (.iconst (-1), 1) := by decide +kernel
theorem dX8_waits_19 : decode cX8_waits 19 = .ok (.ireturn, 1) := by decide +kernel
theorem dX8_waits_20 : decode cX8_waits 20 = .ok (.aload_n 0, 1) := by decide +kernel
theorem dX8_waits_21 : decode cX8_waits 21 = .ok (.invokevirtual 186, 3) := by decide +kernel
theorem dX8_waits_24 : decode cX8_waits 24 = .ok (.aload_n 0, 1) := by decide +kernel
theorem dX8_waits_25 : decode cX8_waits 25 = .ok (.getfield 10, 3) := by decide +kernel
theorem dX8_waits_28 : decode cX8_waits 28 = .ok (.iload_n 1, 1) := by decide +kernel
theorem dX8_waits_29 : decode cX8_waits 29 = .ok (.iload_n 2, 1) := by decide +kernel
theorem dX8_waits_30 : decode cX8_waits 30 = .ok (.iconst 1, 1) := by decide +kernel
theorem dX8_waits_31 : decode cX8_waits 31 = .ok (.invokevirtual 202, 3) := by decide +kernel
theorem dX8_waits_34 : decode cX8_waits 34 = .ok (.istore_n 3, 1) := by decide +kernel
theorem dX8_waits_35 : decode cX8_waits 35 = .ok (.iload_n 3, 1) := by decide +kernel
theorem dX8_waits_36 : decode cX8_waits 36 = .ok (.ldc 206, 2) := by decide +kernel
theorem dX8_waits_38 : decode cX8_waits 38 = .ok (.if_icmp .ne 8, 3) := by decide +kernel
theorem dX8_waits_41 : decode cX8_waits 41 = .ok (.bipush (-2), 2) := by decide +kernel
theorem dX8_waits_43 : decode cX8_waits 43 = .ok (.goto 6, 3) := by decide +kernel
theorem dX8_waits_46 : decode cX8_waits 46 = .ok (.iload_n 3, 1) := by decide +kernel
theorem dX8_waits_47 : decode cX8_waits 47 = .ok (.iload_n 2, 1) := by decide +kernel
theorem dX8_waits_48 : decode cX8_waits 48 = .ok (.isub, 1) := by decide +kernel
theorem dX8_waits_49 : decode cX8_waits 49 = .ok (.ireturn, 1) := by decide +kernel
set_option maxRecDepth 20000 in
theorem ggX8_queue_X3_hasPlace : GoodIn wsX8_queue wsX3_hasPlace := goodIn_r _ [7, 8, 198, 199, 200, 201, 202, 203, 204, 205, 206, 207] rfl (by decide +kernel)
set_option maxRecDepth 20000 in
theorem gX8_queue_X3_hasPlace : GoodIn wsX8_queue (wsV RX8 135 RX3 yX3_hasPlace wsX3_hasPlace) := goodIn_app (goodIn_of _ (by decide +kernel)) ggX8_queue_X3_hasPlace
set_option maxRecDepth 20000 in
theorem ggX8_queue_X8_isMinute : GoodIn wsX8_queue wsX8_isMinute := goodIn_r _ [12] rfl (by decide +kernel)
set_option maxRecDepth 20000 in
theorem gX8_queue_X8_isMinute : GoodIn wsX8_queue (va_wsS RX8 199 yX8_isMinute wsX8_isMinute) := goodIn_app (goodIn_of _ (by decide +kernel)) ggX8_queue_X8_isMinute
set_option maxRecDepth 20000 in
theorem ggX8_queue_X8_prepareTrip : GoodIn wsX8_queue wsX8_prepareTrip := goodIn_r _ [16, 1, 17, 2, 18, 19, 20, 21, 22, 23, 24, 6, 25, 8, 26, 27, 28, 29, 30, 31, 4, 5, 7, 32, 33, 34, 35, 36, 37, 38, 39, 40, 41, 42, 43, 44, 45, 46, 47, 48, 49, 11, 50, 51, 52, 53, 54, 55, 56, 57, 58, 59, 60, 61, 62, 63, 64, 65, 66, 67, 68, 69, 70, 71, 72, 73, 74, 75, 76, 77, 182, 183, 184, 185, 186, 187, 188, 189, 190, 191, 192, 193, 194, 195, 196, 197, 208, 209, 210, 211, 212, 213, 214, 215, 216, 217, 218, 219, 220, 221, 222, 223, 224, 198, 199, 200, 201, 202, 203, 204, 205, 206, 207, 225, 226, 227] rfl (by decide +kernel)
set_option maxRecDepth 20000 in
theorem gX8_queue_X8_prepareTrip : GoodIn wsX8_queue (wsV RX8 186 RX8 yX8_prepareTrip wsX8_prepareTrip) := goodIn_app (goodIn_of _ (by decide +kernel)) ggX8_queue_X8_prepareTrip
set_option maxRecDepth 20000 in
theorem ggX8_queue_X7_stopAfter : GoodIn wsX8_queue wsX7_stopAfter := goodIn_r _ [81, 82, 83, 84, 85, 86, 33, 34, 6, 35, 36, 87, 88, 89, 90, 91, 92, 93, 94, 95, 96, 97, 98, 56, 99, 100, 101, 102, 103, 104, 105, 106, 107, 108, 109, 110, 111, 70, 58, 112, 113, 114, 115, 75, 116, 117, 77, 118, 119, 120, 121, 122, 123, 124, 61, 62, 63, 125, 126, 127, 128, 129, 130, 38, 39, 40, 41, 131, 132, 133, 134, 135, 136, 137, 138, 139, 140, 141, 142, 143, 144, 145, 146, 147, 148, 149, 150, 151, 152, 153, 154, 155, 156, 157, 158, 159, 160, 161, 162, 163, 164, 165, 166, 167, 168, 169, 170, 171, 172, 173, 64, 174, 175, 176, 177, 208, 209, 210, 211, 212, 213, 214, 215, 216, 217, 218, 219, 220, 221, 222, 223, 224, 198, 199, 200, 201, 202, 203, 204, 205, 206, 207, 225, 226, 227, 228, 229, 230, 231] rfl (by decide +kernel)
set_option maxRecDepth 20000 in
theorem gX8_queue_X7_stopAfter : GoodIn wsX8_queue (wsV RX8 202 RX7 yX7_stopAfter wsX7_stopAfter) := goodIn_app (goodIn_of _ (by decide +kernel)) ggX8_queue_X7_stopAfter
set_option maxRecDepth 20000 in
theorem ggX8_queue_X8_orNot : GoodIn wsX8_queue wsX8_orNot := goodIn_r _ [180, 181] rfl (by decide +kernel)
set_option maxRecDepth 20000 in
theorem gX8_queue_X8_orNot : GoodIn wsX8_queue (va_wsS RX8 207 yX8_orNot wsX8_orNot) := goodIn_app (goodIn_of _ (by decide +kernel)) ggX8_queue_X8_orNot
theorem dX8_queue_0 : decode cX8_queue 0 = .ok (.aload_n 0, 1) := by decide +kernel
theorem dX8_queue_1 : decode cX8_queue 1 = .ok (.getfield 20, 3) := by decide +kernel
theorem dX8_queue_4 : decode cX8_queue 4 = .ok (.iload_n 1, 1) := by decide +kernel
theorem dX8_queue_5 : decode cX8_queue 5 = .ok (.invokevirtual 135, 3) := by decide +kernel
theorem dX8_queue_8 : decode cX8_queue 8 = .ok (.ifCond .eq 21, 3) := by decide +kernel
theorem dX8_queue_11 : decode cX8_queue 11 = .ok (.iload_n 2, 1) := by decide +kernel
theorem dX8_queue_12 : decode cX8_queue 12 = .ok (.invokestatic 199, 3) := by decide +kernel
theorem dX8_queue_15 : decode cX8_queue 15 = .ok (.ifCond .eq 14, 3) := by decide +kernel
theorem dX8_queue_18 : decode cX8_queue 18 = .ok (.iload_n 3, 1) := by decide +kernel
theorem dX8_queue_19 : decode cX8_queue 19 = .ok (.iconst 1, 1) := by decide +kernel
theorem dX8_queue_20 : decode cX8_queue 20 = .ok (.if_icmp .lt 9, 3) := by decide +kernel
theorem dX8_queue_23 : decode cX8_queue 23 = .ok (.iload_n 3, 1) := by decide +kernel
theorem dX8_queue_24 : decode cX8_queue 24 = .ok (.bipush 9, 2) := by decide +kernel
theorem dX8_queue_26 : decode cX8_queue 26 = .ok (.if_icmp .le 5, 3) := by decide +kernel
theorem dX8_queue_29 : decode cX8_queue 29 = .ok (.iconst (-1), 1) := by decide +kernel
theorem dX8_queue_30 : decode cX8_queue 30 = .ok (.ireturn, 1) := by decide +kernel
theorem dX8_queue_31 : decode cX8_queue 31 = .ok (.aload_n 0, 1) := by decide +kernel
theorem dX8_queue_32 : decode cX8_queue 32 = .ok (.invokevirtual 186, 3) := by decide +kernel
theorem dX8_queue_35 : decode cX8_queue 35 = .ok (.aload_n 0, 1) := by decide +kernel
theorem dX8_queue_36 : decode cX8_queue 36 = .ok (.getfield 10, 3) := by decide +kernel
theorem dX8_queue_39 : decode cX8_queue 39 = .ok (.iload_n 1, 1) := by decide +kernel
theorem dX8_queue_40 : decode cX8_queue 40 = .ok (.iload_n 2, 1) := by decide +kernel
theorem dX8_queue_41 : decode cX8_queue 41 = .ok (.iload_n 3, 1) := by decide +kernel
theorem dX8_queue_42 : decode cX8_queue 42 = .ok (.invokevirtual 202, 3) := by decide +kernel
theorem dX8_queue_45 : decode cX8_queue 45 = .ok (.invokestatic 207, 3) := by decide +kernel
theorem dX8_queue_48 : decode cX8_queue 48 = .ok (.ireturn, 1) := by decide +kernel
set_option maxRecDepth 20000 in
theorem ggX8_here_X8_isMoment : GoodIn wsX8_here wsX8_isMoment := goodIn_r _ [8, 9, 10, 11, 12, 13, 14, 15, 16, 17, 7, 18, 189, 190, 191, 192, 193, 194, 195, 196, 197, 198, 199, 200, 201, 202, 203, 204, 222, 223, 224, 225, 226, 227, 228, 229, 230, 231] rfl (by decide +kernel)
set_option maxRecDepth 20000 in
theorem gX8_here_X8_isMoment : GoodIn wsX8_here (wsV RX8 210 RX8 yX8_isMoment wsX8_isMoment) := goodIn_app (goodIn_of _ (by decide +kernel)) ggX8_here_X8_isMoment
set_option maxRecDepth 20000 in
theorem ggX8_here_X8_isSeeds : GoodIn wsX8_here wsX8_isSeeds := goodIn_r _ [21] rfl (by decide +kernel)
set_option maxRecDepth 20000 in
theorem gX8_here_X8_isSeeds : GoodIn wsX8_here (va_wsS RX8 213 yX8_isSeeds wsX8_isSeeds) := goodIn_app (goodIn_of _ (by decide +kernel)) ggX8_here_X8_isSeeds
set_option maxRecDepth 20000 in
theorem ggX8_here_X8_isMinute : GoodIn wsX8_here wsX8_isMinute := goodIn_r _ [18] rfl (by decide +kernel)
set_option maxRecDepth 20000 in
theorem gX8_here_X8_isMinute : GoodIn wsX8_here (va_wsS RX8 199 yX8_isMinute wsX8_isMinute) := goodIn_app (goodIn_of _ (by decide +kernel)) ggX8_here_X8_isMinute
set_option maxRecDepth 20000 in
theorem ggX8_here_X8_prepareTrip : GoodIn wsX8_here wsX8_prepareTrip := goodIn_r _ [25, 9, 2, 1, 26, 27, 28, 29, 30, 31, 32, 13, 33, 15, 34, 35, 36, 37, 38, 39, 11, 12, 14, 40, 41, 42, 43, 44, 45, 46, 47, 48, 49, 50, 51, 52, 53, 54, 55, 56, 57, 7, 58, 59, 60, 61, 62, 63, 64, 65, 66, 67, 68, 69, 70, 71, 72, 73, 74, 75, 76, 77, 78, 79, 80, 81, 82, 83, 84, 85, 189, 190, 191, 192, 193, 194, 195, 196, 197, 198, 199, 200, 201, 202, 203, 204, 205, 206, 207, 208, 209, 210, 211, 212, 213, 214, 215, 216, 217, 218, 219, 220, 221, 222, 223, 224, 225, 226, 227, 228, 229, 230, 231, 232, 233, 234] rfl (by decide +kernel)
set_option maxRecDepth 20000 in
theorem gX8_here_X8_prepareTrip : GoodIn wsX8_here (wsV RX8 186 RX8 yX8_prepareTrip wsX8_prepareTrip) := goodIn_app (goodIn_of _ (by decide +kernel)) ggX8_here_X8_prepareTrip
set_option maxRecDepth 20000 in
theorem ggX8_here_X7_stopAfter : GoodIn wsX8_here wsX7_stopAfter := goodIn_r _ [89, 90, 91, 92, 93, 94, 41, 42, 13, 43, 44, 95, 96, 97, 98, 99, 100, 101, 102, 103, 104, 105, 106, 64, 107, 108, 109, 110, 111, 112, 113, 114, 115, 116, 117, 118, 119, 78, 66, 120, 121, 122, 123, 83, 124, 125, 85, 126, 127, 128, 129, 130, 131, 132, 69, 70, 71, 133, 134, 135, 136, 137, 138, 46, 47, 48, 49, 139, 140, 141, 142, 143, 144, 145, 146, 147, 148, 149, 150, 151, 152, 153, 154, 155, 156, 157, 158, 159, 160, 161, 162, 163, 164, 165, 166, 167, 168, 169, 170, 171, 172, 173, 174, 175, 176, 177, 178, 179, 180, 181, 72, 182, 183, 184, 185, 205, 206, 207, 208, 209, 210, 211, 212, 213, 214, 215, 216, 217, 218, 219, 220, 221, 222, 223, 224, 225, 226, 227, 228, 229, 230, 231, 232, 233, 234, 235, 236, 237, 238] rfl (by decide +kernel)
set_option maxRecDepth 20000 in
theorem gX8_here_X7_stopAfter : GoodIn wsX8_here (wsV RX8 202 RX7 yX7_stopAfter wsX7_stopAfter) := goodIn_app (goodIn_of _ (by decide +kernel)) ggX8_here_X7_stopAfter
set_option maxRecDepth 20000 in
theorem ggX8_here_X8_lowestTerms : GoodIn wsX8_here wsX8_lowestTerms := goodIn_r _ [188] rfl (by decide +kernel)
set_option maxRecDepth 20000 in
theorem gX8_here_X8_lowestTerms : GoodIn wsX8_here (va_wsS RX8 219 yX8_lowestTerms wsX8_lowestTerms) := goodIn_app (goodIn_of _ (by decide +kernel)) ggX8_here_X8_lowestTerms
theorem dX8_here_0 : decode cX8_here 0 = .ok (.iload_n 2, 1) := by decide +kernel
theorem dX8_here_1 : decode cX8_here 1 = .ok (.sipush 10000, 3) := by decide +kernel
theorem dX8_here_4 : decode cX8_here 4 = .ok (.idiv, 1) := by decide +kernel
theorem dX8_here_5 : decode cX8_here 5 = .ok (.istore 4, 2) := by decide +kernel
theorem dX8_here_7 : decode cX8_here 7 = .ok (.aload_n 0, 1) := by decide +kernel
theorem dX8_here_8 : decode cX8_here 8 = .ok (.iload_n 1, 1) := by decide +kernel
theorem dX8_here_9 : decode cX8_here 9 = .ok (.invokevirtual 210, 3) := by decide +kernel
theorem dX8_here_12 : decode cX8_here 12 = .ok (.ifCond .eq 35, 3) := by decide +kernel
theorem dX8_here_15 : decode cX8_here 15 = .ok (.iload_n 2, 1) := by decide +kernel
theorem dX8_here_16 : decode cX8_here 16 = .ok (.ifCond .lt 31, 3) := by decide +kernel
theorem dX8_here_19 : decode cX8_here 19 = .ok (.iload 4, 2) := by decide +kernel
theorem dX8_here_21 : decode cX8_here 21 = .ok (.invokestatic 213, 3) := by decide +kernel
theorem dX8_here_24 : decode cX8_here 24 = .ok (.ifCond .eq 23, 3) := by decide +kernel
theorem dX8_here_27 : decode cX8_here 27 = .ok (.iload_n 2, 1) := by decide +kernel
theorem dX8_here_28 : decode cX8_here 28 = .ok (.sipush 10000, 3) := by decide +kernel
theorem dX8_here_31 : decode cX8_here 31 = .ok (.irem, 1) := by decide +kernel
theorem dX8_here_32 : decode cX8_here 32 = .ok (.invokestatic 199, 3) := by decide +kernel
theorem dX8_here_35 : decode cX8_here 35 = .ok (.ifCond .eq 12, 3) := by decide +kernel
theorem dX8_here_38 : decode cX8_here 38 = .ok (.iload_n 3, 1) := by decide +kernel
theorem dX8_here_39 : decode cX8_here 39 = .ok (.ifCond .lt 8, 3) := by decide +kernel
theorem dX8_here_42 : decode cX8_here 42 = .ok (.iload_n 3, 1) := by decide +kernel
theorem dX8_here_43 : decode cX8_here 43 = .ok (.iconst 1, 1) := by decide +kernel
theorem dX8_here_44 : decode cX8_here 44 = .ok (.if_icmp .le 5, 3) := by decide +kernel
theorem dX8_here_47 : decode cX8_here 47 = .ok (.iconst (-1), 1) := by decide +kernel
theorem dX8_here_48 : decode cX8_here 48 = .ok (.ireturn, 1) := by decide +kernel
theorem dX8_here_49 : decode cX8_here 49 = .ok (.iload_n 1, 1) := by decide +kernel
theorem dX8_here_50 : decode cX8_here 50 = .ok (.sipush 10000, 3) := by decide +kernel
theorem dX8_here_53 : decode cX8_here 53 = .ok (.irem, 1) := by decide +kernel
theorem dX8_here_54 : decode cX8_here 54 = .ok (.iload_n 2, 1) := by decide +kernel
theorem dX8_here_55 : decode cX8_here 55 = .ok (.sipush 10000, 3) := by decide +kernel
theorem dX8_here_58 : decode cX8_here 58 = .ok (.irem, 1) := by decide +kernel
theorem dX8_here_59 : decode cX8_here 59 = .ok (.iadd, 1) := by decide +kernel
theorem dX8_here_60 : decode cX8_here 60 = .ok (.istore 5, 2) := by decide +kernel
theorem dX8_here_62 : decode cX8_here 62 = .ok (.aload_n 0, 1) := by decide +kernel
theorem dX8_here_63 : decode cX8_here 63 = .ok (.invokevirtual 186, 3) := by decide +kernel
theorem dX8_here_66 : decode cX8_here 66 = .ok (.iconst 0, 1) := by decide +kernel
theorem dX8_here_67 : decode cX8_here 67 = .ok (.istore 6, 2) := by decide +kernel
theorem dX8_here_69 : decode cX8_here 69 = .ok (.iconst 0, 1) := by decide +kernel
theorem dX8_here_70 : decode cX8_here 70 = .ok (.istore 7, 2) := by decide +kernel
theorem dX8_here_72 : decode cX8_here 72 = .ok (.iload 7, 2) := by decide +kernel
theorem dX8_here_74 : decode cX8_here 74 = .ok (.iload 4, 2) := by decide +kernel
theorem dX8_here_76 : decode cX8_here 76 = .ok (.if_icmp .ge 51, 3) := by decide +kernel
theorem dX8_here_79 : decode cX8_here 79 = .ok (.aload_n 0, 1) := by decide +kernel
theorem dX8_here_80 : decode cX8_here 80 = .ok (.getfield 10, 3) := by decide +kernel
theorem dX8_here_83 : decode cX8_here 83 = .ok (.aload_n 0, 1) := by decide +kernel
theorem dX8_here_84 : decode cX8_here 84 = .ok (.getfield 28, 3) := by decide +kernel
theorem dX8_here_87 : decode cX8_here 87 = .ok (.iconst 5, 1) := by decide +kernel
theorem dX8_here_88 : decode cX8_here 88 = .ok (.iaload, 1) := by decide +kernel
theorem dX8_here_89 : decode cX8_here 89 = .ok (.iload 7, 2) := by decide +kernel
theorem dX8_here_91 : decode cX8_here 91 = .ok (.iadd, 1) := by decide +kernel
theorem dX8_here_92 : decode cX8_here 92 = .ok (.putfield 216, 3) := by decide +kernel
theorem dX8_here_95 : decode cX8_here 95 = .ok (.aload_n 0, 1) := by decide +kernel
theorem dX8_here_96 : decode cX8_here 96 = .ok (.getfield 10, 3) := by decide +kernel
theorem dX8_here_99 : decode cX8_here 99 = .ok (.iload_n 1, 1) := by decide +kernel
theorem dX8_here_100 : decode cX8_here 100 = .ok (.sipush 10000, 3) := by decide +kernel
theorem dX8_here_103 : decode cX8_here 103 = .ok (.idiv, 1) := by decide +kernel
theorem dX8_here_104 : decode cX8_here 104 = .ok (.iload_n 1, 1) := by decide +kernel
theorem dX8_here_105 : decode cX8_here 105 = .ok (.sipush 10000, 3) := by decide +kernel
theorem dX8_here_108 : decode cX8_here 108 = .ok (.irem, 1) := by decide +kernel
theorem dX8_here_109 : decode cX8_here 109 = .ok (.iconst 1, 1) := by decide +kernel
theorem dX8_here_110 : decode cX8_here 110 = .ok (.invokevirtual 202, 3) := by decide +kernel
theorem dX8_here_113 : decode cX8_here 113 = .ok (.iload 5, 2) := by decide +kernel
theorem dX8_here_115 : decode cX8_here 115 = .ok (.if_icmp .gt 6, 3) := by decide +kernel
theorem dX8_here_118 : decode cX8_here 118 = .ok (.iinc 6 1, 3) := by decide +kernel
theorem dX8_here_121 : decode cX8_here 121 = .ok (.iinc 7 1, 3) := by decide +kernel
theorem dX8_here_124 : decode cX8_here 124 = .ok (.goto (-52), 3) := by decide +kernel
theorem dX8_here_127 : decode cX8_here 127 = .ok (.iload 6, 2) := by decide +kernel
theorem dX8_here_129 : decode cX8_here 129 = .ok (.iload 4, 2) := by decide +kernel
theorem dX8_here_131 : decode cX8_here 131 = .ok (.iload_n 3, 1) := by decide +kernel
theorem dX8_here_132 : decode cX8_here 132 = .ok (.invokestatic 219, 3) := by decide +kernel
theorem dX8_here_135 : decode cX8_here 135 = .ok (.ireturn, 1) := by decide +kernel
set_option maxRecDepth 20000 in
theorem ggX8_goes_X8_isMoment : GoodIn wsX8_goes wsX8_isMoment := goodIn_r _ [8, 9, 10, 11, 12, 13, 14, 15, 16, 17, 7, 18, 209, 210, 211, 212, 213, 214, 215, 216, 217, 218, 219, 220, 221, 222, 223, 224, 242, 243, 244, 245, 246, 247, 248, 249, 250, 251] rfl (by decide +kernel)
set_option maxRecDepth 20000 in
theorem gX8_goes_X8_isMoment : GoodIn wsX8_goes (wsV RX8 210 RX8 yX8_isMoment wsX8_isMoment) := goodIn_app (goodIn_of _ (by decide +kernel)) ggX8_goes_X8_isMoment
set_option maxRecDepth 20000 in
theorem ggX8_goes_X8_prepareTrip : GoodIn wsX8_goes wsX8_prepareTrip := goodIn_r _ [22, 9, 23, 1, 24, 25, 26, 27, 28, 29, 30, 13, 31, 15, 32, 33, 34, 35, 36, 37, 11, 12, 14, 38, 39, 40, 41, 42, 43, 44, 45, 46, 47, 48, 49, 50, 51, 52, 53, 54, 55, 7, 56, 57, 58, 59, 60, 61, 62, 63, 64, 65, 66, 67, 68, 69, 70, 71, 72, 73, 74, 75, 76, 77, 78, 79, 80, 81, 82, 83, 209, 210, 211, 212, 213, 214, 215, 216, 217, 218, 219, 220, 221, 222, 223, 224, 225, 226, 227, 228, 229, 230, 231, 232, 233, 234, 235, 236, 237, 238, 239, 240, 241, 242, 243, 244, 245, 246, 247, 248, 249, 250, 251, 252, 253, 254] rfl (by decide +kernel)
set_option maxRecDepth 20000 in
theorem gX8_goes_X8_prepareTrip : GoodIn wsX8_goes (wsV RX8 186 RX8 yX8_prepareTrip wsX8_prepareTrip) := goodIn_app (goodIn_of _ (by decide +kernel)) ggX8_goes_X8_prepareTrip
set_option maxRecDepth 20000 in
theorem ggX8_goes_X7_arrival : GoodIn wsX8_goes wsX7_arrival := goodIn_r _ [87, 88, 66, 89, 90, 91, 92, 93, 94, 95, 62, 96, 97, 98, 99, 100, 101, 71, 65, 102, 39, 40, 13, 41, 42, 103, 104, 105, 106, 107, 108, 109, 110, 111, 112, 44, 45, 46, 47, 113, 114, 115, 116, 117, 118, 119, 120, 121, 122, 123, 124, 125, 126, 127, 128, 129, 130, 131, 132, 133, 134, 135, 136, 137, 138, 139, 140, 141, 142, 76, 64, 143, 144, 145, 146, 81, 147, 148, 83, 149, 150, 151, 152, 153, 154, 155, 67, 68, 69, 156, 157, 158, 159, 160, 161, 162, 163, 164, 165, 166, 167, 168, 169, 170, 171, 172, 173, 174, 175, 176, 177, 178, 179, 180, 181, 182, 183, 184, 185, 186, 187, 188, 189, 190, 191, 192, 193, 194, 195, 196, 197, 198, 70, 199, 200, 201, 202, 203, 77, 204, 49, 50, 51, 52, 225, 226, 227, 228, 229, 230, 231, 232, 233, 234, 235, 236, 237, 238, 239, 240, 241, 242, 243, 244, 245, 246, 247, 248, 249, 250, 251, 252, 253, 254, 255, 256, 257, 258] rfl (by decide +kernel)
set_option maxRecDepth 20000 in
theorem gX8_goes_X7_arrival : GoodIn wsX8_goes (wsV RX8 222 RX7 yX7_arrival wsX7_arrival) := goodIn_app (goodIn_of _ (by decide +kernel)) ggX8_goes_X7_arrival
set_option maxRecDepth 20000 in
theorem ggX8_goes_X8_orNot : GoodIn wsX8_goes wsX8_orNot := goodIn_r _ [207, 208] rfl (by decide +kernel)
set_option maxRecDepth 20000 in
theorem gX8_goes_X8_orNot : GoodIn wsX8_goes (va_wsS RX8 207 yX8_orNot wsX8_orNot) := goodIn_app (goodIn_of _ (by decide +kernel)) ggX8_goes_X8_orNot
theorem dX8_goes_0 : decode cX8_goes 0 = .ok (.aload_n 0, 1) := by decide +kernel
theorem dX8_goes_1 : decode cX8_goes 1 = .ok (.iload_n 1, 1) := by decide +kernel
theorem dX8_goes_2 : decode cX8_goes 2 = .ok (.invokevirtual 210, 3) := by decide +kernel
theorem dX8_goes_5 : decode cX8_goes 5 = .ok (.ifCond .eq 8, 3) := by decide +kernel
theorem dX8_goes_8 : decode cX8_goes 8 = .ok (.iload_n 2, 1) := by decide +kernel
theorem dX8_goes_9 : decode cX8_goes 9 = .ok (.iconst (-1), 1) := by decide +kernel
theorem dX8_goes_10 : decode cX8_goes 10 = .ok (.if_icmp .ge 5, 3) := by decide +kernel
theorem dX8_goes_13 : decode cX8_goes 13 = .ok (.iconst (-1), 1) := by decide +kernel
theorem dX8_goes_14 : decode cX8_goes 14 = .ok (.ireturn, 1) := by decide +kernel
theorem dX8_goes_15 : decode cX8_goes 15 = .ok (.aload_n 0, 1) := by decide +kernel
theorem dX8_goes_16 : decode cX8_goes 16 = .ok (.invokevirtual 186, 3) := by decide +kernel
theorem dX8_goes_19 : decode cX8_goes 19 = .ok (.aload_n 0, 1) := by decide +kernel
theorem dX8_goes_20 : decode cX8_goes 20 = .ok (.getfield 10, 3) := by decide +kernel
theorem dX8_goes_23 : decode cX8_goes 23 = .ok (.iload_n 1, 1) := by decide +kernel
theorem dX8_goes_24 : decode cX8_goes 24 = .ok (.sipush 10000, 3) := by decide +kernel
theorem dX8_goes_27 : decode cX8_goes 27 = .ok (.idiv, 1) := by decide +kernel
theorem dX8_goes_28 : decode cX8_goes 28 = .ok (.iload_n 1, 1) := by decide +kernel
theorem dX8_goes_29 : decode cX8_goes 29 = .ok (.sipush 10000, 3) := by decide +kernel
theorem dX8_goes_32 : decode cX8_goes 32 = .ok (.irem, 1) := by decide +kernel
theorem dX8_goes_33 : decode cX8_goes 33 = .ok (.invokevirtual 222, 3) := by decide +kernel
theorem dX8_goes_36 : decode cX8_goes 36 = .ok (.istore_n 3, 1) := by decide +kernel
theorem dX8_goes_37 : decode cX8_goes 37 = .ok (.iload_n 2, 1) := by decide +kernel
theorem dX8_goes_38 : decode cX8_goes 38 = .ok (.iconst (-1), 1) := by decide +kernel
theorem dX8_goes_39 : decode cX8_goes 39 = .ok (.if_icmp .ne 8, 3) := by decide +kernel
theorem dX8_goes_42 : decode cX8_goes 42 = .ok (.iload_n 3, 1) := by decide +kernel
theorem dX8_goes_43 : decode cX8_goes 43 = .ok (.invokestatic 207, 3) := by decide +kernel
theorem dX8_goes_46 : decode cX8_goes 46 = .ok (.ireturn, 1) := by decide +kernel
theorem dX8_goes_47 : decode cX8_goes 47 = .ok (.iload_n 2, 1) := by decide +kernel
theorem dX8_goes_48 : decode cX8_goes 48 = .ok (.aload_n 0, 1) := by decide +kernel
theorem dX8_goes_49 : decode cX8_goes 49 = .ok (.getfield 10, 3) := by decide +kernel
theorem dX8_goes_52 : decode cX8_goes 52 = .ok (.getfield 225, 3) := by decide +kernel
theorem dX8_goes_55 : decode cX8_goes 55 = .ok (.if_icmp .ge 21, 3) := by decide +kernel
theorem dX8_goes_58 : decode cX8_goes 58 = .ok (.iload_n 2, 1) := by decide +kernel
theorem dX8_goes_59 : decode cX8_goes 59 = .ok (.bipush 20, 2) := by decide +kernel
theorem dX8_goes_61 : decode cX8_goes 61 = .ok (.if_icmp .ge 15, 3) := by decide +kernel
theorem dX8_goes_64 : decode cX8_goes 64 = .ok (.aload_n 0, 1) := by decide +kernel
theorem dX8_goes_65 : decode cX8_goes 65 = .ok (.getfield 10, 3) := by decide +kernel
theorem dX8_goes_68 : decode cX8_goes 68 = .ok (.getfield 228, 3) := by decide +kernel
theorem dX8_goes_71 : decode cX8_goes 71 = .ok (.iload_n 2, 1) := by decide +kernel
theorem dX8_goes_72 : decode cX8_goes 72 = .ok (.iaload, 1) := by decide +kernel
theorem dX8_goes_73 : decode cX8_goes 73 = .ok (.goto 4, 3) := by decide +kernel
theorem dX8_goes_76 : decode cX8_goes 76 = .ok (.iconst (-1), 1) := by decide +kernel
theorem dX8_goes_77 : decode cX8_goes 77 = .ok (.ireturn, 1) := by decide +kernel
set_option maxRecDepth 20000 in
theorem ggX8_dark_X8_isMoment : GoodIn wsX8_dark wsX8_isMoment := goodIn_r _ [8, 9, 10, 11, 12, 13, 14, 15, 16, 17, 7, 18, 210, 211, 212, 213, 214, 215, 216, 217, 218, 219, 220, 221, 222, 223, 224, 225, 243, 244, 245, 246, 247, 248, 249, 250, 251, 252] rfl (by decide +kernel)
set_option maxRecDepth 20000 in
theorem gX8_dark_X8_isMoment : GoodIn wsX8_dark (wsV RX8 210 RX8 yX8_isMoment wsX8_isMoment) := goodIn_app (goodIn_of _ (by decide +kernel)) ggX8_dark_X8_isMoment
set_option maxRecDepth 20000 in
theorem ggX8_dark_X8_isSeeds : GoodIn wsX8_dark wsX8_isSeeds := goodIn_r _ [21] rfl (by decide +kernel)
set_option maxRecDepth 20000 in
theorem gX8_dark_X8_isSeeds : GoodIn wsX8_dark (va_wsS RX8 213 yX8_isSeeds wsX8_isSeeds) := goodIn_app (goodIn_of _ (by decide +kernel)) ggX8_dark_X8_isSeeds
set_option maxRecDepth 20000 in
theorem ggX8_dark_X8_prepareTrip : GoodIn wsX8_dark wsX8_prepareTrip := goodIn_r _ [25, 9, 2, 1, 26, 27, 28, 29, 30, 31, 32, 13, 33, 15, 34, 35, 36, 37, 38, 39, 11, 12, 14, 40, 41, 42, 43, 44, 45, 46, 47, 48, 49, 50, 51, 52, 53, 54, 55, 56, 57, 7, 58, 59, 60, 61, 62, 63, 64, 65, 66, 67, 68, 69, 70, 71, 72, 73, 74, 75, 76, 77, 78, 79, 80, 81, 82, 83, 84, 85, 210, 211, 212, 213, 214, 215, 216, 217, 218, 219, 220, 221, 222, 223, 224, 225, 226, 227, 228, 229, 230, 231, 232, 233, 234, 235, 236, 237, 238, 239, 240, 241, 242, 243, 244, 245, 246, 247, 248, 249, 250, 251, 252, 253, 254, 255] rfl (by decide +kernel)
set_option maxRecDepth 20000 in
theorem gX8_dark_X8_prepareTrip : GoodIn wsX8_dark (wsV RX8 186 RX8 yX8_prepareTrip wsX8_prepareTrip) := goodIn_app (goodIn_of _ (by decide +kernel)) ggX8_dark_X8_prepareTrip
set_option maxRecDepth 20000 in
theorem ggX8_dark_X7_arrival : GoodIn wsX8_dark wsX7_arrival := goodIn_r _ [89, 90, 68, 91, 92, 93, 94, 95, 96, 97, 64, 98, 99, 100, 101, 102, 103, 73, 67, 104, 41, 42, 13, 43, 44, 105, 106, 107, 108, 109, 110, 111, 112, 113, 114, 46, 47, 48, 49, 115, 116, 117, 118, 119, 120, 121, 122, 123, 124, 125, 126, 127, 128, 129, 130, 131, 132, 133, 134, 135, 136, 137, 138, 139, 140, 141, 142, 143, 144, 78, 66, 145, 146, 147, 148, 83, 149, 150, 85, 151, 152, 153, 154, 155, 156, 157, 69, 70, 71, 158, 159, 160, 161, 162, 163, 164, 165, 166, 167, 168, 169, 170, 171, 172, 173, 174, 175, 176, 177, 178, 179, 180, 181, 182, 183, 184, 185, 186, 187, 188, 189, 190, 191, 192, 193, 194, 195, 196, 197, 198, 199, 200, 72, 201, 202, 203, 204, 205, 79, 206, 51, 52, 53, 54, 226, 227, 228, 229, 230, 231, 232, 233, 234, 235, 236, 237, 238, 239, 240, 241, 242, 243, 244, 245, 246, 247, 248, 249, 250, 251, 252, 253, 254, 255, 256, 257, 258, 259] rfl (by decide +kernel)
set_option maxRecDepth 20000 in
theorem gX8_dark_X7_arrival : GoodIn wsX8_dark (wsV RX8 222 RX7 yX7_arrival wsX7_arrival) := goodIn_app (goodIn_of _ (by decide +kernel)) ggX8_dark_X7_arrival
set_option maxRecDepth 20000 in
theorem ggX8_dark_X8_lowestTerms : GoodIn wsX8_dark wsX8_lowestTerms := goodIn_r _ [209] rfl (by decide +kernel)
set_option maxRecDepth 20000 in
theorem gX8_dark_X8_lowestTerms : GoodIn wsX8_dark (va_wsS RX8 219 yX8_lowestTerms wsX8_lowestTerms) := goodIn_app (goodIn_of _ (by decide +kernel)) ggX8_dark_X8_lowestTerms
theorem dX8_dark_0 : decode cX8_dark 0 = .ok (.aload_n 0, 1) := by decide +kernel
theorem dX8_dark_1 : decode cX8_dark 1 = .ok (.iload_n 1, 1) := by decide +kernel
theorem dX8_dark_2 : decode cX8_dark 2 = .ok (.invokevirtual 210, 3) := by decide +kernel
theorem dX8_dark_5 : decode cX8_dark 5 = .ok (.ifCond .eq 19, 3) := by decide +kernel
theorem dX8_dark_8 : decode cX8_dark 8 = .ok (.iload_n 2, 1) := by decide +kernel
theorem dX8_dark_9 : decode cX8_dark 9 = .ok (.invokestatic 213, 3) := by decide +kernel
theorem dX8_dark_12 : decode cX8_dark 12 = .ok (.ifCond .eq 12, 3) := by decide +kernel
theorem dX8_dark_15 : decode cX8_dark 15 = .ok (.iload_n 3, 1) := by decide +kernel
theorem dX8_dark_16 : decode cX8_dark 16 = .ok (.ifCond .lt 8, 3) := by decide +kernel
theorem dX8_dark_19 : decode cX8_dark 19 = .ok (.iload_n 3, 1) := by decide +kernel
theorem dX8_dark_20 : decode cX8_dark 20 = .ok (.iconst 1, 1) := by decide +kernel
theorem dX8_dark_21 : decode cX8_dark 21 = .ok (.if_icmp .le 5, 3) := by decide +kernel
theorem dX8_dark_24 : decode cX8_dark 24 = .ok (.iconst (-1), 1) := by decide +kernel
theorem dX8_dark_25 : decode cX8_dark 25 = .ok (.ireturn, 1) := by decide +kernel
theorem dX8_dark_26 : decode cX8_dark 26 = .ok (.aload_n 0, 1) := by decide +kernel
theorem dX8_dark_27 : decode cX8_dark 27 = .ok (.invokevirtual 186, 3) := by decide +kernel
theorem dX8_dark_30 : decode cX8_dark 30 = .ok (.iconst 0, 1) := by decide +kernel
theorem dX8_dark_31 : decode cX8_dark 31 = .ok (.istore 4, 2) := by decide +kernel
theorem dX8_dark_33 : decode cX8_dark 33 = .ok (.iconst 0, 1) := by decide +kernel
theorem dX8_dark_34 : decode cX8_dark 34 = .ok (.istore 5, 2) := by decide +kernel
theorem dX8_dark_36 : decode cX8_dark 36 = .ok (.iload 5, 2) := by decide +kernel
theorem dX8_dark_38 : decode cX8_dark 38 = .ok (.iload_n 2, 1) := by decide +kernel
theorem dX8_dark_39 : decode cX8_dark 39 = .ok (.if_icmp .ge 54, 3) := by decide +kernel
theorem dX8_dark_42 : decode cX8_dark 42 = .ok (.aload_n 0, 1) := by decide +kernel
theorem dX8_dark_43 : decode cX8_dark 43 = .ok (.getfield 10, 3) := by decide +kernel
theorem dX8_dark_46 : decode cX8_dark 46 = .ok (.aload_n 0, 1) := by decide +kernel
theorem dX8_dark_47 : decode cX8_dark 47 = .ok (.getfield 28, 3) := by decide +kernel
theorem dX8_dark_50 : decode cX8_dark 50 = .ok (.iconst 5, 1) := by decide +kernel
theorem dX8_dark_51 : decode cX8_dark 51 = .ok (.iaload, 1) := by decide +kernel
theorem dX8_dark_52 : decode cX8_dark 52 = .ok (.iload 5, 2) := by decide +kernel
theorem dX8_dark_54 : decode cX8_dark 54 = .ok (.iadd, 1) := by decide +kernel
theorem dX8_dark_55 : decode cX8_dark 55 = .ok (.putfield 216, 3) := by decide +kernel
theorem dX8_dark_58 : decode cX8_dark 58 = .ok (.aload_n 0, 1) := by decide +kernel
theorem dX8_dark_59 : decode cX8_dark 59 = .ok (.getfield 10, 3) := by decide +kernel
theorem dX8_dark_62 : decode cX8_dark 62 = .ok (.iload_n 1, 1) := by decide +kernel
theorem dX8_dark_63 : decode cX8_dark 63 = .ok (.sipush 10000, 3) := by decide +kernel
theorem dX8_dark_66 : decode cX8_dark 66 = .ok (.idiv, 1) := by decide +kernel
theorem dX8_dark_67 : decode cX8_dark 67 = .ok (.iload_n 1, 1) := by decide +kernel
theorem dX8_dark_68 : decode cX8_dark 68 = .ok (.sipush 10000, 3) := by decide +kernel
theorem dX8_dark_71 : decode cX8_dark 71 = .ok (.irem, 1) := by decide +kernel
theorem dX8_dark_72 : decode cX8_dark 72 = .ok (.invokevirtual 222, 3) := by decide +kernel
theorem dX8_dark_75 : decode cX8_dark 75 = .ok (.aload_n 0, 1) := by decide +kernel
theorem dX8_dark_76 : decode cX8_dark 76 = .ok (.getfield 28, 3) := by decide +kernel
theorem dX8_dark_79 : decode cX8_dark 79 = .ok (.iconst 1, 1) := by decide +kernel
theorem dX8_dark_80 : decode cX8_dark 80 = .ok (.iaload, 1) := by decide +kernel
theorem dX8_dark_81 : decode cX8_dark 81 = .ok (.if_icmp .gt 6, 3) := by decide +kernel
theorem dX8_dark_84 : decode cX8_dark 84 = .ok (.iinc 4 1, 3) := by decide +kernel
theorem dX8_dark_87 : decode cX8_dark 87 = .ok (.iinc 5 1, 3) := by decide +kernel
theorem dX8_dark_90 : decode cX8_dark 90 = .ok (.goto (-54), 3) := by decide +kernel
theorem dX8_dark_93 : decode cX8_dark 93 = .ok (.iload 4, 2) := by decide +kernel
theorem dX8_dark_95 : decode cX8_dark 95 = .ok (.iload_n 2, 1) := by decide +kernel
theorem dX8_dark_96 : decode cX8_dark 96 = .ok (.iload_n 3, 1) := by decide +kernel
theorem dX8_dark_97 : decode cX8_dark 97 = .ok (.invokestatic 219, 3) := by decide +kernel
theorem dX8_dark_100 : decode cX8_dark 100 = .ok (.ireturn, 1) := by decide +kernel
set_option maxRecDepth 20000 in
theorem ggX8_sign_X8_isMoment : GoodIn wsX8_sign wsX8_isMoment := goodIn_r _ [10, 3, 11, 12, 13, 14, 15, 16, 17, 18, 9, 19, 213, 214, 215, 216, 217, 218, 219, 220, 221, 222, 223, 224, 225, 226, 227, 228, 229, 230, 231, 232, 233, 234, 235, 236, 237, 238] rfl (by decide +kernel)
set_option maxRecDepth 20000 in
theorem gX8_sign_X8_isMoment : GoodIn wsX8_sign (wsV RX8 210 RX8 yX8_isMoment wsX8_isMoment) := goodIn_app (goodIn_of _ (by decide +kernel)) ggX8_sign_X8_isMoment
set_option maxRecDepth 20000 in
theorem ggX8_sign_X8_prepareTrip : GoodIn wsX8_sign wsX8_prepareTrip := goodIn_r _ [23, 3, 24, 5, 25, 26, 27, 28, 29, 30, 31, 14, 32, 16, 33, 34, 35, 36, 37, 38, 12, 13, 15, 39, 40, 41, 42, 43, 44, 45, 46, 47, 48, 49, 50, 51, 52, 53, 54, 55, 56, 9, 57, 58, 59, 60, 61, 62, 63, 64, 65, 66, 67, 68, 69, 70, 71, 72, 73, 74, 75, 76, 77, 78, 79, 80, 81, 82, 83, 84, 213, 214, 215, 216, 217, 218, 219, 220, 221, 222, 223, 224, 225, 226, 227, 228, 239, 240, 241, 242, 243, 244, 245, 246, 247, 248, 249, 250, 251, 252, 253, 254, 255, 229, 230, 231, 232, 233, 234, 235, 236, 237, 238, 256, 257, 258] rfl (by decide +kernel)
set_option maxRecDepth 20000 in
theorem gX8_sign_X8_prepareTrip : GoodIn wsX8_sign (wsV RX8 186 RX8 yX8_prepareTrip wsX8_prepareTrip) := goodIn_app (goodIn_of _ (by decide +kernel)) ggX8_sign_X8_prepareTrip
set_option maxRecDepth 20000 in
theorem ggX8_sign_X7_holdSign : GoodIn wsX8_sign wsX7_holdSign := goodIn_r _ [88, 70, 73, 74, 75, 63, 76, 77, 78, 79, 80, 81, 82, 83, 84, 239, 240, 241, 242, 243, 244, 245, 246, 247, 248, 249, 250, 251, 252, 253, 254, 255, 256, 257, 258] rfl (by decide +kernel)
set_option maxRecDepth 20000 in
theorem gX8_sign_X7_holdSign : GoodIn wsX8_sign (wsV RX8 234 RX7 yX7_holdSign wsX7_holdSign) := goodIn_app (goodIn_of _ (by decide +kernel)) ggX8_sign_X7_holdSign
set_option maxRecDepth 20000 in
theorem ggX8_sign_X7_arrival : GoodIn wsX8_sign wsX7_arrival := goodIn_r _ [92, 93, 67, 94, 95, 96, 97, 98, 99, 100, 63, 101, 102, 103, 104, 105, 106, 72, 66, 107, 40, 41, 14, 42, 43, 108, 109, 110, 111, 112, 113, 114, 115, 116, 117, 45, 46, 47, 48, 118, 119, 120, 121, 122, 123, 124, 125, 126, 127, 128, 129, 130, 131, 132, 133, 134, 135, 136, 137, 138, 139, 140, 141, 142, 143, 144, 145, 146, 147, 77, 65, 148, 149, 150, 151, 82, 152, 153, 84, 154, 155, 156, 157, 158, 159, 160, 68, 69, 70, 161, 162, 163, 164, 165, 166, 167, 168, 169, 170, 171, 172, 173, 174, 175, 176, 177, 178, 179, 180, 181, 182, 183, 184, 185, 186, 187, 188, 189, 190, 191, 192, 193, 194, 195, 196, 197, 198, 199, 200, 201, 202, 203, 71, 204, 205, 206, 207, 208, 78, 209, 50, 51, 52, 53, 239, 240, 241, 242, 243, 244, 245, 246, 247, 248, 249, 250, 251, 252, 253, 254, 255, 229, 230, 231, 232, 233, 234, 235, 236, 237, 238, 256, 257, 258, 259, 260, 261, 262] rfl (by decide +kernel)
set_option maxRecDepth 20000 in
theorem gX8_sign_X7_arrival : GoodIn wsX8_sign (wsV RX8 222 RX7 yX7_arrival wsX7_arrival) := goodIn_app (goodIn_of _ (by decide +kernel)) ggX8_sign_X7_arrival
set_option maxRecDepth 20000 in
theorem ggX8_sign_X8_orNot : GoodIn wsX8_sign wsX8_orNot := goodIn_r _ [212, 2] rfl (by decide +kernel)
set_option maxRecDepth 20000 in
theorem gX8_sign_X8_orNot : GoodIn wsX8_sign (va_wsS RX8 207 yX8_orNot wsX8_orNot) := goodIn_app (goodIn_of _ (by decide +kernel)) ggX8_sign_X8_orNot
theorem dX8_sign_0 : decode cX8_sign 0 = .ok (.aload_n 0, 1) := by decide +kernel
theorem dX8_sign_1 : decode cX8_sign 1 = .ok (.iload_n 1, 1) := by decide +kernel
theorem dX8_sign_2 : decode cX8_sign 2 = .ok (.invokevirtual 210, 3) := by decide +kernel
theorem dX8_sign_5 : decode cX8_sign 5 = .ok (.ifCond .eq 12, 3) := by decide +kernel
theorem dX8_sign_8 : decode cX8_sign 8 = .ok (.iload_n 2, 1) := by decide +kernel
theorem dX8_sign_9 : decode cX8_sign 9 = .ok (.ifCond .lt 8, 3) := by decide +kernel
theorem dX8_sign_12 : decode cX8_sign 12 = .ok (.iload_n 2, 1) := by decide +kernel
theorem dX8_sign_13 : decode cX8_sign 13 = .ok (.iconst 1, 1) := by decide +kernel
theorem dX8_sign_14 : decode cX8_sign 14 = .ok (.if_icmp .le 6, 3) := by decide +kernel
theorem dX8_sign_17 : decode cX8_sign 17 = .ok (.ldc 120, 2) := by decide +kernel
theorem dX8_sign_19 : decode cX8_sign 19 = .ok (.ireturn, 1) := by decide +kernel
theorem dX8_sign_20 : decode cX8_sign 20 = .ok (.aload_n 0, 1) := by decide +kernel
theorem dX8_sign_21 : decode cX8_sign 21 = .ok (.invokevirtual 186, 3) := by decide +kernel
theorem dX8_sign_24 : decode cX8_sign 24 = .ok (.iconst (-1), 1) := by decide +kernel
theorem dX8_sign_25 : decode cX8_sign 25 = .ok (.istore_n 3, 1) := by decide +kernel
theorem dX8_sign_26 : decode cX8_sign 26 = .ok (.ldc 206, 2) := by decide +kernel
theorem dX8_sign_28 : decode cX8_sign 28 = .ok (.istore 4, 2) := by decide +kernel
theorem dX8_sign_30 : decode cX8_sign 30 = .ok (.iconst (-1), 1) := by decide +kernel
theorem dX8_sign_31 : decode cX8_sign 31 = .ok (.istore 5, 2) := by decide +kernel
theorem dX8_sign_33 : decode cX8_sign 33 = .ok (.iload 5, 2) := by decide +kernel
theorem dX8_sign_35 : decode cX8_sign 35 = .ok (.aload_n 0, 1) := by decide +kernel
theorem dX8_sign_36 : decode cX8_sign 36 = .ok (.getfield 20, 3) := by decide +kernel
theorem dX8_sign_39 : decode cX8_sign 39 = .ok (.getfield 231, 3) := by decide +kernel
theorem dX8_sign_42 : decode cX8_sign 42 = .ok (.if_icmp .ge 51, 3) := by decide +kernel
theorem dX8_sign_45 : decode cX8_sign 45 = .ok (.aload_n 0, 1) := by decide +kernel
theorem dX8_sign_46 : decode cX8_sign 46 = .ok (.getfield 10, 3) := by decide +kernel
theorem dX8_sign_49 : decode cX8_sign 49 = .ok (.iload 5, 2) := by decide +kernel
theorem dX8_sign_51 : decode cX8_sign 51 = .ok (.invokevirtual 234, 3) := by decide +kernel
theorem dX8_sign_54 : decode cX8_sign 54 = .ok (.aload_n 0, 1) := by decide +kernel
theorem dX8_sign_55 : decode cX8_sign 55 = .ok (.getfield 10, 3) := by decide +kernel
theorem dX8_sign_58 : decode cX8_sign 58 = .ok (.iload_n 1, 1) := by decide +kernel
theorem dX8_sign_59 : decode cX8_sign 59 = .ok (.sipush 10000, 3) := by decide +kernel
theorem dX8_sign_62 : decode cX8_sign 62 = .ok (.idiv, 1) := by decide +kernel
theorem dX8_sign_63 : decode cX8_sign 63 = .ok (.iload_n 1, 1) := by decide +kernel
theorem dX8_sign_64 : decode cX8_sign 64 = .ok (.sipush 10000, 3) := by decide +kernel
theorem dX8_sign_67 : decode cX8_sign 67 = .ok (.irem, 1) := by decide +kernel
theorem dX8_sign_68 : decode cX8_sign 68 = .ok (.invokevirtual 222, 3) := by decide +kernel
theorem dX8_sign_71 : decode cX8_sign 71 = .ok (.istore 6, 2) := by decide +kernel
theorem dX8_sign_73 : decode cX8_sign 73 = .ok (.iload 6, 2) := by decide +kernel
theorem dX8_sign_75 : decode cX8_sign 75 = .ok (.iload 4, 2) := by decide +kernel
theorem dX8_sign_77 : decode cX8_sign 77 = .ok (.if_icmp .ge 10, 3) := by decide +kernel
theorem dX8_sign_80 : decode cX8_sign 80 = .ok (.iload 6, 2) := by decide +kernel
theorem dX8_sign_82 : decode cX8_sign 82 = .ok (.istore 4, 2) := by decide +kernel
theorem dX8_sign_84 : decode cX8_sign 84 = .ok (.iload 5, 2) := by decide +kernel
theorem dX8_sign_86 : decode cX8_sign 86 = .ok (.istore_n 3, 1) := by decide +kernel
theorem dX8_sign_87 : decode cX8_sign 87 = .ok (.iinc 5 1, 3) := by decide +kernel
theorem dX8_sign_90 : decode cX8_sign 90 = .ok (.goto (-57), 3) := by decide +kernel
theorem dX8_sign_93 : decode cX8_sign 93 = .ok (.iload_n 2, 1) := by decide +kernel
theorem dX8_sign_94 : decode cX8_sign 94 = .ok (.ifCond .ne 7, 3) := by decide +kernel
theorem dX8_sign_97 : decode cX8_sign 97 = .ok (.iload_n 3, 1) := by decide +kernel
theorem dX8_sign_98 : decode cX8_sign 98 = .ok (.goto 8, 3) := by decide +kernel
theorem dX8_sign_101 : decode cX8_sign 101 = .ok (.iload 4, 2) := by decide +kernel
theorem dX8_sign_103 : decode cX8_sign 103 = .ok (.invokestatic 207, 3) := by decide +kernel
theorem dX8_sign_106 : decode cX8_sign 106 = .ok (.ireturn, 1) := by decide +kernel
set_option maxRecDepth 20000 in
theorem ggX8_in_X3_hasCar : GoodIn wsX8_in wsX3_hasCar := goodIn_r _ [8, 9, 10, 11, 7, 12, 13, 14, 15, 16, 17, 18, 19, 20, 21, 22, 229, 230, 231, 232, 233, 234, 235, 236, 237, 238] rfl (by decide +kernel)
set_option maxRecDepth 20000 in
theorem gX8_in_X3_hasCar : GoodIn wsX8_in (wsV RX8 180 RX3 yX3_hasCar wsX3_hasCar) := goodIn_app (goodIn_of _ (by decide +kernel)) ggX8_in_X3_hasCar
set_option maxRecDepth 20000 in
theorem ggX8_in_X8_prepareTrip : GoodIn wsX8_in wsX8_prepareTrip := goodIn_r _ [27, 1, 28, 2, 29, 30, 31, 32, 33, 34, 35, 7, 36, 37, 13, 38, 39, 40, 41, 42, 43, 44, 45, 46, 47, 48, 49, 50, 51, 52, 53, 54, 55, 56, 57, 58, 59, 60, 61, 62, 63, 26, 64, 65, 66, 67, 68, 69, 70, 71, 72, 73, 74, 75, 76, 77, 78, 79, 80, 81, 82, 83, 84, 85, 86, 87, 88, 89, 90, 91, 213, 214, 215, 216, 217, 218, 219, 220, 221, 222, 223, 224, 225, 226, 227, 228, 239, 240, 241, 242, 243, 244, 245, 246, 247, 248, 249, 250, 251, 252, 253, 254, 255, 229, 230, 231, 232, 233, 234, 235, 236, 237, 238, 256, 257, 258] rfl (by decide +kernel)
set_option maxRecDepth 20000 in
theorem gX8_in_X8_prepareTrip : GoodIn wsX8_in (wsV RX8 186 RX8 yX8_prepareTrip wsX8_prepareTrip) := goodIn_app (goodIn_of _ (by decide +kernel)) ggX8_in_X8_prepareTrip
set_option maxRecDepth 20000 in
theorem ggX8_in_X7_isStopping : GoodIn wsX8_in wsX7_isStopping := goodIn_r _ [95, 96, 97, 98, 99, 70, 100, 101, 78, 102, 103, 104, 7, 105, 18, 19, 20, 21, 22, 106, 107, 108, 109, 84, 72, 110, 111, 112, 113, 89, 114, 115, 91, 116, 117, 118, 119, 120, 121, 122, 75, 76, 77, 123, 47, 48, 49, 50, 124, 125, 126, 127, 128, 129, 52, 53, 54, 55, 130, 131, 132, 133, 134, 135, 136, 137, 138, 139, 140, 141, 142, 143, 144, 145, 146, 147, 148, 149, 150, 151, 152, 153, 154, 155, 156, 157, 158, 159, 160, 161, 162, 163, 164, 165, 166, 167, 239, 240, 241, 242, 243, 244, 245, 246, 247, 248, 249, 250, 251, 252, 253, 254, 255, 229, 230, 231, 232, 233, 234, 235, 236, 237, 238, 256, 257, 258, 259, 260, 261, 262] rfl (by decide +kernel)
set_option maxRecDepth 20000 in
theorem gX8_in_X7_isStopping : GoodIn wsX8_in (wsV RX8 192 RX7 yX7_isStopping wsX7_isStopping) := goodIn_app (goodIn_of _ (by decide +kernel)) ggX8_in_X7_isStopping
set_option maxRecDepth 20000 in
theorem ggX8_in_X3_passes : GoodIn wsX8_in wsX3_passes := goodIn_r _ [105, 18, 19, 20, 7, 21, 22, 229, 230, 231, 232, 233, 234, 235, 236, 237, 238] rfl (by decide +kernel)
set_option maxRecDepth 20000 in
theorem gX8_in_X3_passes : GoodIn wsX8_in (wsV RX8 183 RX3 yX3_passes wsX3_passes) := goodIn_app (goodIn_of _ (by decide +kernel)) ggX8_in_X3_passes
set_option maxRecDepth 20000 in
theorem ggX8_in_X3_endOf : GoodIn wsX8_in wsX3_endOf := goodIn_r _ [54, 55, 229, 230, 231, 232, 233, 234, 235, 236, 237, 238] rfl (by decide +kernel)
set_option maxRecDepth 20000 in
theorem gX8_in_X3_endOf : GoodIn wsX8_in (wsV RX8 151 RX3 yX3_endOf wsX3_endOf) := goodIn_app (goodIn_of _ (by decide +kernel)) ggX8_in_X3_endOf
set_option maxRecDepth 20000 in
theorem ggX8_in_X3_minutesOf : GoodIn wsX8_in wsX3_minutesOf := goodIn_r _ [59, 60, 229, 230, 231, 232, 233, 234, 235, 236, 237, 238] rfl (by decide +kernel)
set_option maxRecDepth 20000 in
theorem gX8_in_X3_minutesOf : GoodIn wsX8_in (wsV RX8 157 RX3 yX3_minutesOf wsX3_minutesOf) := goodIn_app (goodIn_of _ (by decide +kernel)) ggX8_in_X3_minutesOf
set_option maxRecDepth 20000 in
theorem ggX8_in_X7_arrival : GoodIn wsX8_in wsX7_arrival := goodIn_r _ [174, 175, 74, 176, 177, 178, 96, 179, 180, 181, 70, 182, 183, 184, 185, 186, 187, 79, 73, 123, 47, 48, 7, 49, 50, 139, 140, 141, 142, 143, 188, 189, 190, 191, 129, 52, 53, 54, 55, 192, 193, 194, 195, 196, 197, 198, 199, 200, 18, 19, 20, 21, 22, 201, 202, 203, 204, 205, 15, 16, 17, 102, 103, 104, 105, 106, 107, 108, 109, 84, 72, 110, 111, 112, 113, 89, 114, 115, 91, 116, 117, 118, 119, 120, 121, 122, 75, 76, 77, 124, 125, 126, 127, 128, 130, 131, 132, 133, 134, 135, 136, 137, 138, 144, 145, 146, 147, 148, 149, 150, 151, 152, 153, 154, 155, 156, 157, 158, 159, 160, 161, 162, 163, 164, 165, 166, 167, 97, 98, 99, 100, 101, 78, 206, 207, 208, 209, 210, 85, 211, 57, 58, 59, 60, 239, 240, 241, 242, 243, 244, 245, 246, 247, 248, 249, 250, 251, 252, 253, 254, 255, 229, 230, 231, 232, 233, 234, 235, 236, 237, 238, 256, 257, 258, 259, 260, 261, 262] rfl (by decide +kernel)
set_option maxRecDepth 20000 in
theorem gX8_in_X7_arrival : GoodIn wsX8_in (wsV RX8 222 RX7 yX7_arrival wsX7_arrival) := goodIn_app (goodIn_of _ (by decide +kernel)) ggX8_in_X7_arrival
set_option maxRecDepth 20000 in
theorem ggX8_in_X3_startOf : GoodIn wsX8_in wsX3_startOf := goodIn_r _ [49, 50, 229, 230, 231, 232, 233, 234, 235, 236, 237, 238] rfl (by decide +kernel)
set_option maxRecDepth 20000 in
theorem gX8_in_X3_startOf : GoodIn wsX8_in (wsV RX8 148 RX3 yX3_startOf wsX3_startOf) := goodIn_app (goodIn_of _ (by decide +kernel)) ggX8_in_X3_startOf
theorem dX8_in_0 : decode cX8_in 0 = .ok (.aload_n 0, 1) := by decide +kernel
theorem dX8_in_1 : decode cX8_in 1 = .ok (.getfield 20, 3) := by decide +kernel
theorem dX8_in_4 : decode cX8_in 4 = .ok (.iload_n 1, 1) := by decide +kernel
theorem dX8_in_5 : decode cX8_in 5 = .ok (.iload_n 2, 1) := by decide +kernel
theorem dX8_in_6 : decode cX8_in 6 = .ok (.invokevirtual 180, 3) := by decide +kernel
theorem dX8_in_9 : decode cX8_in 9 = .ok (.ifCond .ne 5, 3) := by decide +kernel
theorem dX8_in_12 : decode cX8_in 12 = .ok (.iconst (-1), 1) := by decide +kernel
theorem dX8_in_13 : decode cX8_in 13 = .ok (.ireturn, 1) := by decide +kernel
theorem dX8_in_14 : decode cX8_in 14 = .ok (.aload_n 0, 1) := by decide +kernel
theorem dX8_in_15 : decode cX8_in 15 = .ok (.invokevirtual 186, 3) := by decide +kernel
theorem dX8_in_18 : decode cX8_in 18 = .ok (.aload_n 0, 1) := by decide +kernel
theorem dX8_in_19 : decode cX8_in 19 = .ok (.getfield 10, 3) := by decide +kernel
theorem dX8_in_22 : decode cX8_in 22 = .ok (.iload_n 1, 1) := by decide +kernel
theorem dX8_in_23 : decode cX8_in 23 = .ok (.iload_n 2, 1) := by decide +kernel
theorem dX8_in_24 : decode cX8_in 24 = .ok (.invokevirtual 192, 3) := by decide +kernel
theorem dX8_in_27 : decode cX8_in 27 = .ok (.ifCond .ne 6, 3) := by decide +kernel
theorem dX8_in_30 : decode cX8_in 30 = .ok (.bipush (-5), 2) := by decide +kernel
theorem dX8_in_32 : decode cX8_in 32 = .ok (.ireturn, 1) := by decide +kernel
theorem dX8_in_33 : decode cX8_in 33 = .ok (.aload_n 0, 1) := by decide +kernel
theorem dX8_in_34 : decode cX8_in 34 = .ok (.getfield 20, 3) := by decide +kernel
theorem dX8_in_37 : decode cX8_in 37 = .ok (.iload_n 1, 1) := by decide +kernel
theorem dX8_in_38 : decode cX8_in 38 = .ok (.iload_n 2, 1) := by decide +kernel
theorem dX8_in_39 : decode cX8_in 39 = .ok (.invokevirtual 183, 3) := by decide +kernel
theorem dX8_in_42 : decode cX8_in 42 = .ok (.istore_n 3, 1) := by decide +kernel
theorem dX8_in_43 : decode cX8_in 43 = .ok (.aload_n 0, 1) := by decide +kernel
theorem dX8_in_44 : decode cX8_in 44 = .ok (.getfield 10, 3) := by decide +kernel
theorem dX8_in_47 : decode cX8_in 47 = .ok (.aload_n 0, 1) := by decide +kernel
theorem dX8_in_48 : decode cX8_in 48 = .ok (.getfield 20, 3) := by decide +kernel
theorem dX8_in_51 : decode cX8_in 51 = .ok (.iload_n 1, 1) := by decide +kernel
theorem dX8_in_52 : decode cX8_in 52 = .ok (.invokevirtual 151, 3) := by decide +kernel
theorem dX8_in_55 : decode cX8_in 55 = .ok (.iload_n 3, 1) := by decide +kernel
theorem dX8_in_56 : decode cX8_in 56 = .ok (.aload_n 0, 1) := by decide +kernel
theorem dX8_in_57 : decode cX8_in 57 = .ok (.getfield 20, 3) := by decide +kernel
theorem dX8_in_60 : decode cX8_in 60 = .ok (.iload_n 1, 1) := by decide +kernel
theorem dX8_in_61 : decode cX8_in 61 = .ok (.invokevirtual 157, 3) := by decide +kernel
theorem dX8_in_64 : decode cX8_in 64 = .ok (.iadd, 1) := by decide +kernel
theorem dX8_in_65 : decode cX8_in 65 = .ok (.invokevirtual 222, 3) := by decide +kernel
theorem dX8_in_68 : decode cX8_in 68 = .ok (.istore 4, 2) := by decide +kernel
theorem dX8_in_70 : decode cX8_in 70 = .ok (.aload_n 0, 1) := by decide +kernel
theorem dX8_in_71 : decode cX8_in 71 = .ok (.getfield 10, 3) := by decide +kernel
theorem dX8_in_74 : decode cX8_in 74 = .ok (.aload_n 0, 1) := by decide +kernel
theorem dX8_in_75 : decode cX8_in 75 = .ok (.getfield 20, 3) := by decide +kernel
theorem dX8_in_78 : decode cX8_in 78 = .ok (.iload_n 1, 1) := by decide +kernel
theorem dX8_in_79 : decode cX8_in 79 = .ok (.invokevirtual 148, 3) := by decide +kernel
theorem dX8_in_82 : decode cX8_in 82 = .ok (.iload_n 3, 1) := by decide +kernel
theorem dX8_in_83 : decode cX8_in 83 = .ok (.iconst 1, 1) := by decide +kernel
theorem dX8_in_84 : decode cX8_in 84 = .ok (.iadd, 1) := by decide +kernel
theorem dX8_in_85 : decode cX8_in 85 = .ok (.invokevirtual 222, 3) := by decide +kernel
theorem dX8_in_88 : decode cX8_in 88 = .ok (.istore 5, 2) := by decide +kernel
theorem dX8_in_90 : decode cX8_in 90 = .ok (.iload 4, 2) := by decide +kernel
theorem dX8_in_92 : decode cX8_in 92 = .ok (.ldc 206, 2) := by decide +kernel
theorem dX8_in_94 : decode cX8_in 94 = .ok (.if_icmp .eq 14, 3) := by decide +kernel
theorem dX8_in_97 : decode cX8_in 97 = .ok (.iload 4, 2) := by decide +kernel
theorem dX8_in_99 : decode cX8_in 99 = .ok (.iload 5, 2) := by decide +kernel
theorem dX8_in_101 : decode cX8_in 101 = .ok (.if_icmp .gt 7, 3) := by decide +kernel
theorem dX8_in_104 : decode cX8_in 104 = .ok (.iconst 1, 1) := by decide +kernel
theorem dX8_in_105 : decode cX8_in 105 = .ok (.goto 4, 3) := by decide +kernel
theorem dX8_in_108 : decode cX8_in 108 = .ok (.iconst 0, 1) := by decide +kernel
theorem dX8_in_109 : decode cX8_in 109 = .ok (.ireturn, 1) := by decide +kernel
set_option maxRecDepth 20000 in
theorem ggX8_walks_X8_isMoment : GoodIn wsX8_walks wsX8_isMoment := goodIn_r _ [9, 2, 10, 11, 12, 13, 14, 15, 16, 17, 8, 18, 213, 214, 215, 216, 217, 218, 219, 220, 221, 222, 223, 224, 225, 226, 227, 228, 229, 230, 231, 232, 233, 234, 235, 236, 237, 238] rfl (by decide +kernel)
set_option maxRecDepth 20000 in
theorem gX8_walks_X8_isMoment : GoodIn wsX8_walks (wsV RX8 210 RX8 yX8_isMoment wsX8_isMoment) := goodIn_app (goodIn_of _ (by decide +kernel)) ggX8_walks_X8_isMoment
set_option maxRecDepth 20000 in
theorem ggX8_walks_X8_prepareTrip : GoodIn wsX8_walks wsX8_prepareTrip := goodIn_r _ [22, 2, 23, 4, 24, 25, 26, 27, 28, 29, 30, 13, 31, 15, 32, 33, 34, 35, 36, 37, 11, 12, 14, 38, 39, 40, 41, 42, 43, 44, 45, 46, 47, 48, 49, 50, 51, 52, 53, 54, 55, 8, 56, 57, 58, 59, 60, 61, 62, 63, 64, 65, 66, 67, 68, 69, 70, 71, 72, 73, 74, 75, 76, 77, 78, 79, 80, 81, 82, 83, 213, 214, 215, 216, 217, 218, 219, 220, 221, 222, 223, 224, 225, 226, 227, 228, 239, 240, 241, 242, 243, 244, 245, 246, 247, 248, 249, 250, 251, 252, 253, 254, 255, 229, 230, 231, 232, 233, 234, 235, 236, 237, 238, 256, 257, 258] rfl (by decide +kernel)
set_option maxRecDepth 20000 in
theorem gX8_walks_X8_prepareTrip : GoodIn wsX8_walks (wsV RX8 186 RX8 yX8_prepareTrip wsX8_prepareTrip) := goodIn_app (goodIn_of _ (by decide +kernel)) ggX8_walks_X8_prepareTrip
set_option maxRecDepth 20000 in
theorem ggX8_walks_X3_onFoot : GoodIn wsX8_walks wsX3_onFoot := goodIn_r _ [87, 88, 37, 11, 12, 13, 14, 15, 229, 230, 231, 232, 233, 234, 235, 236, 237, 238] rfl (by decide +kernel)
set_option maxRecDepth 20000 in
theorem gX8_walks_X3_onFoot : GoodIn wsX8_walks (wsV RX8 110 RX3 yX3_onFoot wsX3_onFoot) := goodIn_app (goodIn_of _ (by decide +kernel)) ggX8_walks_X3_onFoot
set_option maxRecDepth 20000 in
theorem ggX8_walks_X7_arrival : GoodIn wsX8_walks wsX7_arrival := goodIn_r _ [92, 93, 66, 94, 95, 96, 97, 98, 99, 100, 62, 101, 102, 103, 104, 105, 106, 71, 65, 107, 39, 40, 13, 41, 42, 108, 109, 110, 111, 112, 113, 114, 115, 116, 117, 44, 45, 46, 47, 118, 119, 120, 121, 122, 123, 124, 125, 126, 127, 128, 129, 130, 131, 132, 133, 134, 135, 136, 137, 138, 139, 140, 141, 142, 143, 144, 145, 146, 147, 76, 64, 148, 149, 150, 151, 81, 152, 153, 83, 154, 155, 156, 157, 158, 159, 160, 67, 68, 69, 161, 162, 163, 164, 165, 166, 167, 168, 169, 170, 171, 172, 173, 174, 175, 176, 177, 178, 179, 180, 181, 182, 183, 184, 185, 186, 187, 188, 189, 190, 191, 192, 193, 194, 195, 196, 197, 198, 199, 200, 201, 202, 203, 70, 204, 205, 206, 207, 208, 77, 209, 49, 50, 51, 52, 239, 240, 241, 242, 243, 244, 245, 246, 247, 248, 249, 250, 251, 252, 253, 254, 255, 229, 230, 231, 232, 233, 234, 235, 236, 237, 238, 256, 257, 258, 259, 260, 261, 262] rfl (by decide +kernel)
set_option maxRecDepth 20000 in
theorem gX8_walks_X7_arrival : GoodIn wsX8_walks (wsV RX8 222 RX7 yX7_arrival wsX7_arrival) := goodIn_app (goodIn_of _ (by decide +kernel)) ggX8_walks_X7_arrival
set_option maxRecDepth 20000 in
theorem ggX8_walks_X8_orNot : GoodIn wsX8_walks wsX8_orNot := goodIn_r _ [212, 1] rfl (by decide +kernel)
set_option maxRecDepth 20000 in
theorem gX8_walks_X8_orNot : GoodIn wsX8_walks (va_wsS RX8 207 yX8_orNot wsX8_orNot) := goodIn_app (goodIn_of _ (by decide +kernel)) ggX8_walks_X8_orNot
theorem dX8_walks_0 : decode cX8_walks 0 = .ok (.aload_n 0, 1) := by decide +kernel
theorem dX8_walks_1 : decode cX8_walks 1 = .ok (.iload_n 1, 1) := by decide +kernel
theorem dX8_walks_2 : decode cX8_walks 2 = .ok (.invokevirtual 210, 3) := by decide +kernel
theorem dX8_walks_5 : decode cX8_walks 5 = .ok (.ifCond .eq 12, 3) := by decide +kernel
theorem dX8_walks_8 : decode cX8_walks 8 = .ok (.iload_n 2, 1) := by decide +kernel
theorem dX8_walks_9 : decode cX8_walks 9 = .ok (.ifCond .lt 8, 3) := by decide +kernel
theorem dX8_walks_12 : decode cX8_walks 12 = .ok (.iload_n 2, 1) := by decide +kernel
theorem dX8_walks_13 : decode cX8_walks 13 = .ok (.iconst 1, 1) := by decide +kernel
theorem dX8_walks_14 : decode cX8_walks 14 = .ok (.if_icmp .le 5, 3) := by decide +kernel
theorem dX8_walks_17 : decode cX8_walks 17 = .ok (.iconst (-1), 1) := by decide +kernel
theorem dX8_walks_18 : decode cX8_walks 18 = .ok (.ireturn, 1) := by decide +kernel
theorem dX8_walks_19 : decode cX8_walks 19 = .ok (.aload_n 0, 1) := by decide +kernel
theorem dX8_walks_20 : decode cX8_walks 20 = .ok (.invokevirtual 186, 3) := by decide +kernel
theorem dX8_walks_23 : decode cX8_walks 23 = .ok (.bipush (-2), 2) := by decide +kernel
theorem dX8_walks_25 : decode cX8_walks 25 = .ok (.istore_n 3, 1) := by decide +kernel
theorem dX8_walks_26 : decode cX8_walks 26 = .ok (.ldc 206, 2) := by decide +kernel
theorem dX8_walks_28 : decode cX8_walks 28 = .ok (.istore 4, 2) := by decide +kernel
theorem dX8_walks_30 : decode cX8_walks 30 = .ok (.iconst 0, 1) := by decide +kernel
theorem dX8_walks_31 : decode cX8_walks 31 = .ok (.istore 5, 2) := by decide +kernel
theorem dX8_walks_33 : decode cX8_walks 33 = .ok (.iload 5, 2) := by decide +kernel
theorem dX8_walks_35 : decode cX8_walks 35 = .ok (.aload_n 0, 1) := by decide +kernel
theorem dX8_walks_36 : decode cX8_walks 36 = .ok (.getfield 20, 3) := by decide +kernel
theorem dX8_walks_39 : decode cX8_walks 39 = .ok (.getfield 231, 3) := by decide +kernel
theorem dX8_walks_42 : decode cX8_walks 42 = .ok (.if_icmp .ge 76, 3) := by decide +kernel
theorem dX8_walks_45 : decode cX8_walks 45 = .ok (.aload_n 0, 1) := by decide +kernel
theorem dX8_walks_46 : decode cX8_walks 46 = .ok (.getfield 20, 3) := by decide +kernel
theorem dX8_walks_49 : decode cX8_walks 49 = .ok (.iload_n 1, 1) := by decide +kernel
theorem dX8_walks_50 : decode cX8_walks 50 = .ok (.sipush 10000, 3) := by decide +kernel
theorem dX8_walks_53 : decode cX8_walks 53 = .ok (.idiv, 1) := by decide +kernel
theorem dX8_walks_54 : decode cX8_walks 54 = .ok (.iload 5, 2) := by decide +kernel
theorem dX8_walks_56 : decode cX8_walks 56 = .ok (.invokevirtual 110, 3) := by decide +kernel
theorem dX8_walks_59 : decode cX8_walks 59 = .ok (.istore 6, 2) := by decide +kernel
theorem dX8_walks_61 : decode cX8_walks 61 = .ok (.iload 6, 2) := by decide +kernel
theorem dX8_walks_63 : decode cX8_walks 63 = .ok (.ifCond .ne 16, 3) := by decide +kernel
theorem dX8_walks_66 : decode cX8_walks 66 = .ok (.iload 5, 2) := by decide +kernel
theorem dX8_walks_68 : decode cX8_walks 68 = .ok (.iload_n 1, 1) := by decide +kernel
theorem dX8_walks_69 : decode cX8_walks 69 = .ok (.sipush 10000, 3) := by decide +kernel
theorem dX8_walks_72 : decode cX8_walks 72 = .ok (.idiv, 1) := by decide +kernel
theorem dX8_walks_73 : decode cX8_walks 73 = .ok (.if_icmp .eq 6, 3) := by decide +kernel
theorem dX8_walks_76 : decode cX8_walks 76 = .ok (.goto 36, 3) := by decide +kernel
theorem dX8_walks_79 : decode cX8_walks 79 = .ok (.aload_n 0, 1) := by decide +kernel
theorem dX8_walks_80 : decode cX8_walks 80 = .ok (.getfield 10, 3) := by decide +kernel
theorem dX8_walks_83 : decode cX8_walks 83 = .ok (.iload 5, 2) := by decide +kernel
theorem dX8_walks_85 : decode cX8_walks 85 = .ok (.iload_n 1, 1) := by decide +kernel
theorem dX8_walks_86 : decode cX8_walks 86 = .ok (.sipush 10000, 3) := by decide +kernel
theorem dX8_walks_89 : decode cX8_walks 89 = .ok (.irem, 1) := by decide +kernel
theorem dX8_walks_90 : decode cX8_walks 90 = .ok (.iload 6, 2) := by decide +kernel
theorem dX8_walks_92 : decode cX8_walks 92 = .ok (.iadd, 1) := by decide +kernel
theorem dX8_walks_93 : decode cX8_walks 93 = .ok (.invokevirtual 222, 3) := by decide +kernel
theorem dX8_walks_96 : decode cX8_walks 96 = .ok (.istore 7, 2) := by decide +kernel
theorem dX8_walks_98 : decode cX8_walks 98 = .ok (.iload 7, 2) := by decide +kernel
theorem dX8_walks_100 : decode cX8_walks 100 = .ok (.iload 4, 2) := by decide +kernel
theorem dX8_walks_102 : decode cX8_walks 102 = .ok (.if_icmp .ge 10, 3) := by decide +kernel
theorem dX8_walks_105 : decode cX8_walks 105 = .ok (.iload 7, 2) := by decide +kernel
theorem dX8_walks_107 : decode cX8_walks 107 = .ok (.istore 4, 2) := by decide +kernel
theorem dX8_walks_109 : decode cX8_walks 109 = .ok (.iload 5, 2) := by decide +kernel
theorem dX8_walks_111 : decode cX8_walks 111 = .ok (.istore_n 3, 1) := by decide +kernel
theorem dX8_walks_112 : decode cX8_walks 112 = .ok (.iinc 5 1, 3) := by decide +kernel
theorem dX8_walks_115 : decode cX8_walks 115 = .ok (.goto (-82), 3) := by decide +kernel
theorem dX8_walks_118 : decode cX8_walks 118 = .ok (.iload_n 2, 1) := by decide +kernel
theorem dX8_walks_119 : decode cX8_walks 119 = .ok (.ifCond .ne 7, 3) := by decide +kernel
theorem dX8_walks_122 : decode cX8_walks 122 = .ok (.iload_n 3, 1) := by decide +kernel
theorem dX8_walks_123 : decode cX8_walks 123 = .ok (.goto 8, 3) := by decide +kernel
theorem dX8_walks_126 : decode cX8_walks 126 = .ok (.iload 4, 2) := by decide +kernel
theorem dX8_walks_128 : decode cX8_walks 128 = .ok (.invokestatic 207, 3) := by decide +kernel
theorem dX8_walks_131 : decode cX8_walks 131 = .ok (.ireturn, 1) := by decide +kernel
