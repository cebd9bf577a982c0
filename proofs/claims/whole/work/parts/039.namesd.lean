set_option maxRecDepth 20000 in
theorem ggX9_given_X9_worked : GoodIn wsX9_given wsX9_worked := goodIn_r _ [9, 10, 11, 12, 13, 14, 15, 16, 8, 17, 18, 19, 20, 21, 22, 23, 24, 25, 26, 27, 28, 29, 30, 31, 32, 33, 34, 35, 36, 37, 38, 39, 40, 41, 42, 43, 44, 45, 46, 47, 48, 49, 50, 51, 52, 53, 54, 55, 56, 57, 58, 59, 60, 61, 62, 63, 64, 65, 66, 67, 68, 69, 70, 71, 72, 73, 74, 75, 76, 77, 78, 79, 80, 81, 82] rfl (by decide +kernel)
set_option maxRecDepth 20000 in
theorem gX9_given_X9_worked : GoodIn wsX9_given (wsV RX9 296 RX9 yX9_worked wsX9_worked) := goodIn_app (goodIn_of _ (by decide +kernel)) ggX9_given_X9_worked
theorem dX9_given_0 : decode cX9_given 0 = .ok (.bipush 60, 2) := by decide +kernel
theorem dX9_given_2 : decode cX9_given 2 = .ok (.iload_n 1, 1) := by decide +kernel
theorem dX9_given_3 : decode cX9_given 3 = .ok (.imul, 1) := by decide +kernel
theorem dX9_given_4 : decode cX9_given 4 = .ok (.istore_n 2, 1) := by decide +kernel
theorem dX9_given_5 : decode cX9_given 5 = .ok (.iload_n 2, 1) := by decide +kernel
theorem dX9_given_6 : decode cX9_given 6 = .ok (.bipush 60, 2) := by decide +kernel
theorem dX9_given_8 : decode cX9_given 8 = .ok (.iload_n 1, 1) := by decide +kernel
theorem dX9_given_9 : decode cX9_given 9 = .ok (.imul, 1) := by decide +kernel
theorem dX9_given_10 : decode cX9_given 10 = .ok (.aload_n 0, 1) := by decide +kernel
theorem dX9_given_11 : decode cX9_given 11 = .ok (.getfield 117, 3) := by decide +kernel
theorem dX9_given_14 : decode cX9_given 14 = .ok (.iload_n 1, 1) := by decide +kernel
theorem dX9_given_15 : decode cX9_given 15 = .ok (.iaload, 1) := by decide +kernel
theorem dX9_given_16 : decode cX9_given 16 = .ok (.iadd, 1) := by decide +kernel
theorem dX9_given_17 : decode cX9_given 17 = .ok (.if_icmp .ge 60, 3) := by decide +kernel
theorem dX9_given_20 : decode cX9_given 20 = .ok (.aload_n 0, 1) := by decide +kernel
theorem dX9_given_21 : decode cX9_given 21 = .ok (.getfield 123, 3) := by decide +kernel
theorem dX9_given_24 : decode cX9_given 24 = .ok (.iload_n 2, 1) := by decide +kernel
theorem dX9_given_25 : decode cX9_given 25 = .ok (.iaload, 1) := by decide +kernel
theorem dX9_given_26 : decode cX9_given 26 = .ok (.aload_n 0, 1) := by decide +kernel
theorem dX9_given_27 : decode cX9_given 27 = .ok (.getfield 120, 3) := by decide +kernel
theorem dX9_given_30 : decode cX9_given 30 = .ok (.iload_n 2, 1) := by decide +kernel
theorem dX9_given_31 : decode cX9_given 31 = .ok (.iaload, 1) := by decide +kernel
theorem dX9_given_32 : decode cX9_given 32 = .ok (.if_icmp .eq 22, 3) := by decide +kernel
theorem dX9_given_35 : decode cX9_given 35 = .ok (.aload_n 0, 1) := by decide +kernel
theorem dX9_given_36 : decode cX9_given 36 = .ok (.aload_n 0, 1) := by decide +kernel
theorem dX9_given_37 : decode cX9_given 37 = .ok (.getfield 120, 3) := by decide +kernel
theorem dX9_given_40 : decode cX9_given 40 = .ok (.iload_n 2, 1) := by decide +kernel
theorem dX9_given_41 : decode cX9_given 41 = .ok (.iaload, 1) := by decide +kernel
theorem dX9_given_42 : decode cX9_given 42 = .ok (.aload_n 0, 1) := by decide +kernel
theorem dX9_given_43 : decode cX9_given 43 = .ok (.getfield 123, 3) := by decide +kernel
theorem dX9_given_46 : decode cX9_given 46 = .ok (.iload_n 2, 1) := by decide +kernel
theorem dX9_given_47 : decode cX9_given 47 = .ok (.iaload, 1) := by decide +kernel
theorem dX9_given_48 : decode cX9_given 48 = .ok (.invokevirtual 296, 3) := by decide +kernel
theorem dX9_given_51 : decode cX9_given 51 = .ok (.ifCond .eq 20, 3) := by decide +kernel
theorem dX9_given_54 : decode cX9_given 54 = .ok (.aload_n 0, 1) := by decide +kernel
theorem dX9_given_55 : decode cX9_given 55 = .ok (.aload_n 0, 1) := by decide +kernel
theorem dX9_given_56 : decode cX9_given 56 = .ok (.getfield 123, 3) := by decide +kernel
theorem dX9_given_59 : decode cX9_given 59 = .ok (.iload_n 2, 1) := by decide +kernel
theorem dX9_given_60 : decode cX9_given 60 = .ok (.iaload, 1) := by decide +kernel
theorem dX9_given_61 : decode cX9_given 61 = .ok (.aload_n 0, 1) := by decide +kernel
theorem dX9_given_62 : decode cX9_given 62 = .ok (.getfield 126, 3) := by decide +kernel
theorem dX9_given_65 : decode cX9_given 65 = .ok (.iload_n 2, 1) := by decide +kernel
theorem dX9_given_66 : decode cX9_given 66 = .ok (.iaload, 1) := by decide +kernel
theorem dX9_given_67 : decode cX9_given 67 = .ok (.invokevirtual 296, 3) := by decide +kernel
theorem dX9_given_70 : decode cX9_given 70 = .ok (.ireturn, 1) := by decide +kernel
theorem dX9_given_71 : decode cX9_given 71 = .ok (.iinc 2 1, 3) := by decide +kernel
theorem dX9_given_74 : decode cX9_given 74 = .ok (.goto (-69), 3) := by decide +kernel
theorem dX9_given_77 : decode cX9_given 77 = .ok (.iconst 0, 1) := by decide +kernel
theorem dX9_given_78 : decode cX9_given 78 = .ok (.ireturn, 1) := by decide +kernel
theorem dX9_asIs_0 : decode cX9_asIs 0 = .ok (.aload_n 0, 1) := by decide +kernel
theorem dX9_asIs_1 : decode cX9_asIs 1 = .ok (.aload_n 0, 1) := by decide +kernel
theorem dX9_asIs_2 : decode cX9_asIs 2 = .ok (.getfield 80, 3) := by decide +kernel
theorem dX9_asIs_5 : decode cX9_asIs 5 = .ok (.putfield 157, 3) := by decide +kernel
theorem dX9_asIs_8 : decode cX9_asIs 8 = .ok (.aload_n 0, 1) := by decide +kernel
theorem dX9_asIs_9 : decode cX9_asIs 9 = .ok (.aload_n 0, 1) := by decide +kernel
theorem dX9_asIs_10 : decode cX9_asIs 10 = .ok (.getfield 47, 3) := by decide +kernel
theorem dX9_asIs_13 : decode cX9_asIs 13 = .ok (.putfield 160, 3) := by decide +kernel
theorem dX9_asIs_16 : decode cX9_asIs 16 = .ok (.aload_n 0, 1) := by decide +kernel
theorem dX9_asIs_17 : decode cX9_asIs 17 = .ok (.aload_n 0, 1) := by decide +kernel
theorem dX9_asIs_18 : decode cX9_asIs 18 = .ok (.getfield 56, 3) := by decide +kernel
theorem dX9_asIs_21 : decode cX9_asIs 21 = .ok (.putfield 163, 3) := by decide +kernel
theorem dX9_asIs_24 : decode cX9_asIs 24 = .ok (.aload_n 0, 1) := by decide +kernel
theorem dX9_asIs_25 : decode cX9_asIs 25 = .ok (.aload_n 0, 1) := by decide +kernel
theorem dX9_asIs_26 : decode cX9_asIs 26 = .ok (.getfield 53, 3) := by decide +kernel
theorem dX9_asIs_29 : decode cX9_asIs 29 = .ok (.putfield 166, 3) := by decide +kernel
theorem dX9_asIs_32 : decode cX9_asIs 32 = .ok (.return_, 1) := by decide +kernel
theorem dX9_facts_0 : decode cX9_facts 0 = .ok (.aload_n 0, 1) := by decide +kernel
theorem dX9_facts_1 : decode cX9_facts 1 = .ok (.getfield 23, 3) := by decide +kernel
theorem dX9_facts_4 : decode cX9_facts 4 = .ok (.iload_n 1, 1) := by decide +kernel
theorem dX9_facts_5 : decode cX9_facts 5 = .ok (.iaload, 1) := by decide +kernel
theorem dX9_facts_6 : decode cX9_facts 6 = .ok (.istore_n 3, 1) := by decide +kernel
theorem dX9_facts_7 : decode cX9_facts 7 = .ok (.aload_n 0, 1) := by decide +kernel
theorem dX9_facts_8 : decode cX9_facts 8 = .ok (.getfield 135, 3) := by decide +kernel
theorem dX9_facts_11 : decode cX9_facts 11 = .ok (.iconst 0, 1) := by decide +kernel
theorem dX9_facts_12 : decode cX9_facts 12 = .ok (.aload_n 0, 1) := by decide +kernel
theorem dX9_facts_13 : decode cX9_facts 13 = .ok (.getfield 16, 3) := by decide +kernel
theorem dX9_facts_16 : decode cX9_facts 16 = .ok (.iload_n 3, 1) := by decide +kernel
theorem dX9_facts_17 : decode cX9_facts 17 = .ok (.iaload, 1) := by decide +kernel
theorem dX9_facts_18 : decode cX9_facts 18 = .ok (.iastore, 1) := by decide +kernel
theorem dX9_facts_19 : decode cX9_facts 19 = .ok (.aload_n 0, 1) := by decide +kernel
theorem dX9_facts_20 : decode cX9_facts 20 = .ok (.getfield 135, 3) := by decide +kernel
theorem dX9_facts_23 : decode cX9_facts 23 = .ok (.iconst 1, 1) := by decide +kernel
theorem dX9_facts_24 : decode cX9_facts 24 = .ok (.aload_n 0, 1) := by decide +kernel
theorem dX9_facts_25 : decode cX9_facts 25 = .ok (.getfield 20, 3) := by decide +kernel
theorem dX9_facts_28 : decode cX9_facts 28 = .ok (.iload_n 3, 1) := by decide +kernel
theorem dX9_facts_29 : decode cX9_facts 29 = .ok (.iaload, 1) := by decide +kernel
theorem dX9_facts_30 : decode cX9_facts 30 = .ok (.iastore, 1) := by decide +kernel
theorem dX9_facts_31 : decode cX9_facts 31 = .ok (.aload_n 0, 1) := by decide +kernel
theorem dX9_facts_32 : decode cX9_facts 32 = .ok (.getfield 135, 3) := by decide +kernel
theorem dX9_facts_35 : decode cX9_facts 35 = .ok (.iconst 2, 1) := by decide +kernel
theorem dX9_facts_36 : decode cX9_facts 36 = .ok (.iload_n 2, 1) := by decide +kernel
theorem dX9_facts_37 : decode cX9_facts 37 = .ok (.bipush 60, 2) := by decide +kernel
theorem dX9_facts_39 : decode cX9_facts 39 = .ok (.idiv, 1) := by decide +kernel
theorem dX9_facts_40 : decode cX9_facts 40 = .ok (.iastore, 1) := by decide +kernel
theorem dX9_facts_41 : decode cX9_facts 41 = .ok (.aload_n 0, 1) := by decide +kernel
theorem dX9_facts_42 : decode cX9_facts 42 = .ok (.getfield 135, 3) := by decide +kernel
theorem dX9_facts_45 : decode cX9_facts 45 = .ok (.iconst 3, 1) := by decide +kernel
theorem dX9_facts_46 : decode cX9_facts 46 = .ok (.aload_n 0, 1) := by decide +kernel
theorem dX9_facts_47 : decode cX9_facts 47 = .ok (.getfield 160, 3) := by decide +kernel
theorem dX9_facts_50 : decode cX9_facts 50 = .ok (.iastore, 1) := by decide +kernel
theorem dX9_facts_51 : decode cX9_facts 51 = .ok (.aload_n 0, 1) := by decide +kernel
theorem dX9_facts_52 : decode cX9_facts 52 = .ok (.getfield 135, 3) := by decide +kernel
theorem dX9_facts_55 : decode cX9_facts 55 = .ok (.iconst 4, 1) := by decide +kernel
theorem dX9_facts_56 : decode cX9_facts 56 = .ok (.aload_n 0, 1) := by decide +kernel
theorem dX9_facts_57 : decode cX9_facts 57 = .ok (.getfield 50, 3) := by decide +kernel
theorem dX9_facts_60 : decode cX9_facts 60 = .ok (.iastore, 1) := by decide +kernel
theorem dX9_facts_61 : decode cX9_facts 61 = .ok (.aload_n 0, 1) := by decide +kernel
theorem dX9_facts_62 : decode cX9_facts 62 = .ok (.getfield 135, 3) := by decide +kernel
theorem dX9_facts_65 : decode cX9_facts 65 = .ok (.iconst 5, 1) := by decide +kernel
theorem dX9_facts_66 : decode cX9_facts 66 = .ok (.aload_n 0, 1) := by decide +kernel
theorem dX9_facts_67 : decode cX9_facts 67 = .ok (.getfield 26, 3) := by decide +kernel
theorem dX9_facts_70 : decode cX9_facts 70 = .ok (.iload_n 1, 1) := by decide +kernel
theorem dX9_facts_71 : decode cX9_facts 71 = .ok (.iaload, 1) := by decide +kernel
theorem dX9_facts_72 : decode cX9_facts 72 = .ok (.aload_n 0, 1) := by decide +kernel
theorem dX9_facts_73 : decode cX9_facts 73 = .ok (.getfield 166, 3) := by decide +kernel
theorem dX9_facts_76 : decode cX9_facts 76 = .ok (.if_icmp .ne 7, 3) := by decide +kernel
theorem dX9_facts_79 : decode cX9_facts 79 = .ok (.iconst 1, 1) := by decide +kernel
theorem dX9_facts_80 : decode cX9_facts 80 = .ok (.goto 4, 3) := by decide +kernel
theorem dX9_facts_83 : decode cX9_facts 83 = .ok (.iconst 0, 1) := by decide +kernel
theorem dX9_facts_84 : decode cX9_facts 84 = .ok (.iastore, 1) := by decide +kernel
theorem dX9_facts_85 : decode cX9_facts 85 = .ok (.aload_n 0, 1) := by decide +kernel
theorem dX9_facts_86 : decode cX9_facts 86 = .ok (.getfield 135, 3) := by decide +kernel
theorem dX9_facts_89 : decode cX9_facts 89 = .ok (.bipush 6, 2) := by decide +kernel
theorem dX9_facts_91 : decode cX9_facts 91 = .ok (.aload_n 0, 1) := by decide +kernel
theorem dX9_facts_92 : decode cX9_facts 92 = .ok (.getfield 35, 3) := by decide +kernel
theorem dX9_facts_95 : decode cX9_facts 95 = .ok (.iload_n 1, 1) := by decide +kernel
theorem dX9_facts_96 : decode cX9_facts 96 = .ok (.iaload, 1) := by decide +kernel
theorem dX9_facts_97 : decode cX9_facts 97 = .ok (.iastore, 1) := by decide +kernel
theorem dX9_facts_98 : decode cX9_facts 98 = .ok (.aload_n 0, 1) := by decide +kernel
theorem dX9_facts_99 : decode cX9_facts 99 = .ok (.getfield 135, 3) := by decide +kernel
theorem dX9_facts_102 : decode cX9_facts 102 = .ok (.bipush 7, 2) := by decide +kernel
theorem dX9_facts_104 : decode cX9_facts 104 = .ok (.iconst 0, 1) := by decide +kernel
theorem dX9_facts_105 : decode cX9_facts 105 = .ok (.iastore, 1) := by decide +kernel
theorem dX9_facts_106 : decode cX9_facts 106 = .ok (.aload_n 0, 1) := by decide +kernel
theorem dX9_facts_107 : decode cX9_facts 107 = .ok (.getfield 135, 3) := by decide +kernel
theorem dX9_facts_110 : decode cX9_facts 110 = .ok (.bipush 8, 2) := by decide +kernel
theorem dX9_facts_112 : decode cX9_facts 112 = .ok (.iconst 0, 1) := by decide +kernel
theorem dX9_facts_113 : decode cX9_facts 113 = .ok (.iastore, 1) := by decide +kernel
theorem dX9_facts_114 : decode cX9_facts 114 = .ok (.aload_n 0, 1) := by decide +kernel
theorem dX9_facts_115 : decode cX9_facts 115 = .ok (.getfield 135, 3) := by decide +kernel
theorem dX9_facts_118 : decode cX9_facts 118 = .ok (.bipush 9, 2) := by decide +kernel
theorem dX9_facts_120 : decode cX9_facts 120 = .ok (.iconst 0, 1) := by decide +kernel
theorem dX9_facts_121 : decode cX9_facts 121 = .ok (.iastore, 1) := by decide +kernel
theorem dX9_facts_122 : decode cX9_facts 122 = .ok (.return_, 1) := by decide +kernel
theorem dX9_drawn_0 : decode cX9_drawn 0 = .ok (.iload_n 2, 1) := by decide +kernel
theorem dX9_drawn_1 : decode cX9_drawn 1 = .ok (.iconst 1, 1) := by decide +kernel
theorem dX9_drawn_2 : decode cX9_drawn 2 = .ok (.iadd, 1) := by decide +kernel
theorem dX9_drawn_3 : decode cX9_drawn 3 = .ok (.ldc_w 300, 3) := by decide +kernel
theorem dX9_drawn_6 : decode cX9_drawn 6 = .ok (.imul, 1) := by decide +kernel
theorem dX9_drawn_7 : decode cX9_drawn 7 = .ok (.iload_n 1, 1) := by decide +kernel
theorem dX9_drawn_8 : decode cX9_drawn 8 = .ok (.iconst 1, 1) := by decide +kernel
theorem dX9_drawn_9 : decode cX9_drawn 9 = .ok (.iadd, 1) := by decide +kernel
theorem dX9_drawn_10 : decode cX9_drawn 10 = .ok (.sipush 12345, 3) := by decide +kernel
theorem dX9_drawn_13 : decode cX9_drawn 13 = .ok (.imul, 1) := by decide +kernel
theorem dX9_drawn_14 : decode cX9_drawn 14 = .ok (.iadd, 1) := by decide +kernel
theorem dX9_drawn_15 : decode cX9_drawn 15 = .ok (.aload_n 0, 1) := by decide +kernel
theorem dX9_drawn_16 : decode cX9_drawn 16 = .ok (.getfield 163, 3) := by decide +kernel
theorem dX9_drawn_19 : decode cX9_drawn 19 = .ok (.iadd, 1) := by decide +kernel
theorem dX9_drawn_20 : decode cX9_drawn 20 = .ok (.bipush 8, 2) := by decide +kernel
theorem dX9_drawn_22 : decode cX9_drawn 22 = .ok (.iushr, 1) := by decide +kernel
theorem dX9_drawn_23 : decode cX9_drawn 23 = .ok (.sipush 1000, 3) := by decide +kernel
theorem dX9_drawn_26 : decode cX9_drawn 26 = .ok (.irem, 1) := by decide +kernel
theorem dX9_drawn_27 : decode cX9_drawn 27 = .ok (.ireturn, 1) := by decide +kernel
theorem dX9_minuteOf_0 : decode cX9_minuteOf 0 = .ok (.bipush 60, 2) := by decide +kernel
theorem dX9_minuteOf_2 : decode cX9_minuteOf 2 = .ok (.iload_n 2, 1) := by decide +kernel
theorem dX9_minuteOf_3 : decode cX9_minuteOf 3 = .ok (.imul, 1) := by decide +kernel
theorem dX9_minuteOf_4 : decode cX9_minuteOf 4 = .ok (.aload_n 0, 1) := by decide +kernel
theorem dX9_minuteOf_5 : decode cX9_minuteOf 5 = .ok (.getfield 29, 3) := by decide +kernel
theorem dX9_minuteOf_8 : decode cX9_minuteOf 8 = .ok (.iload_n 1, 1) := by decide +kernel
theorem dX9_minuteOf_9 : decode cX9_minuteOf 9 = .ok (.iaload, 1) := by decide +kernel
theorem dX9_minuteOf_10 : decode cX9_minuteOf 10 = .ok (.idiv, 1) := by decide +kernel
theorem dX9_minuteOf_11 : decode cX9_minuteOf 11 = .ok (.ireturn, 1) := by decide +kernel
set_option maxRecDepth 20000 in
theorem ggX9_isStop_X9_minuteOf : GoodIn wsX9_isStop wsX9_minuteOf := goodIn_r _ [9, 10, 46, 47, 48, 49, 50, 51, 52, 53, 54, 55, 56, 57, 58, 59, 60, 61, 62, 63, 64, 65, 66, 67, 68, 69, 70, 71, 72, 73, 74, 75, 76, 77, 78, 79, 80, 81, 82, 83, 84, 85, 86, 87, 88, 89, 90, 91, 92, 93, 94, 95, 96, 97, 98, 99, 100, 101, 102, 103, 104, 105, 106, 107, 108, 109, 110] rfl (by decide +kernel)
set_option maxRecDepth 20000 in
theorem gX9_isStop_X9_minuteOf : GoodIn wsX9_isStop (wsV RX9 301 RX9 yX9_minuteOf wsX9_minuteOf) := goodIn_app (goodIn_of _ (by decide +kernel)) ggX9_isStop_X9_minuteOf
set_option maxRecDepth 20000 in
theorem ggX9_isStop_X9_facts : GoodIn wsX9_isStop wsX9_facts := goodIn_r _ [14, 15, 2, 16, 17, 3, 4, 18, 19, 20, 46, 47, 48, 49, 50, 51, 52, 53, 54, 55, 56, 57, 58, 59, 60, 61, 62, 63, 64, 65, 66, 67, 68, 69, 70, 71, 72, 73, 74, 75, 76, 77, 78, 79, 80, 81, 82, 83, 84, 85, 86, 87, 88, 89, 90, 91, 92, 93, 94, 95, 96, 97, 98, 99, 100, 101, 102, 103, 104, 105, 106, 107, 108, 109, 110] rfl (by decide +kernel)
set_option maxRecDepth 20000 in
theorem gX9_isStop_X9_facts : GoodIn wsX9_isStop (wsV RX9 304 RX9 yX9_facts wsX9_facts) := goodIn_app (goodIn_of _ (by decide +kernel)) ggX9_isStop_X9_facts
set_option maxRecDepth 20000 in
theorem ggX9_isStop_X9_given : GoodIn wsX9_isStop wsX9_given := goodIn_r _ [24, 25, 26, 27, 28, 29, 30, 31, 8, 32, 33, 34, 35, 2, 36, 37, 38, 39, 46, 47, 48, 49, 50, 51, 52, 53, 54, 55, 56, 57, 58, 59, 60, 61, 62, 63, 64, 65, 66, 67, 68, 69, 70, 71, 72, 73, 74, 75, 76, 77, 78, 79, 80, 81, 82, 83, 84, 85, 86, 87, 88, 89, 90, 91, 92, 93, 94, 95, 96, 97, 98, 99, 100, 101, 102, 103, 104, 105, 106, 107, 108, 109, 110] rfl (by decide +kernel)
set_option maxRecDepth 20000 in
theorem gX9_isStop_X9_given : GoodIn wsX9_isStop (wsV RX9 307 RX9 yX9_given wsX9_given) := goodIn_app (goodIn_of _ (by decide +kernel)) ggX9_isStop_X9_given
set_option maxRecDepth 20000 in
theorem ggX9_isStop_X9_drawn : GoodIn wsX9_isStop wsX9_drawn := goodIn_r _ [43, 44, 45, 46, 47, 48, 49, 50, 51, 52, 53, 54, 55, 56, 57, 58, 59, 60, 61, 62, 63, 64, 65, 66, 67, 68, 69, 70, 71, 72, 73, 74, 75, 76, 77, 78, 79, 80, 81, 82, 83, 84, 85, 86, 87, 88, 89, 90, 91, 92, 93, 94, 95, 96, 97, 98, 99, 100, 101, 102, 103, 104, 105, 106, 107, 108, 109, 110] rfl (by decide +kernel)
set_option maxRecDepth 20000 in
theorem gX9_isStop_X9_drawn : GoodIn wsX9_isStop (wsV RX9 310 RX9 yX9_drawn wsX9_drawn) := goodIn_app (goodIn_of _ (by decide +kernel)) ggX9_isStop_X9_drawn
theorem dX9_isStop_0 : decode cX9_isStop 0 = .ok (.aload_n 0, 1) := by decide +kernel
theorem dX9_isStop_1 : decode cX9_isStop 1 = .ok (.iload_n 1, 1) := by decide +kernel
theorem dX9_isStop_2 : decode cX9_isStop 2 = .ok (.aload_n 0, 1) := by decide +kernel
theorem dX9_isStop_3 : decode cX9_isStop 3 = .ok (.iload_n 1, 1) := by decide +kernel
theorem dX9_isStop_4 : decode cX9_isStop 4 = .ok (.iload_n 2, 1) := by decide +kernel
theorem dX9_isStop_5 : decode cX9_isStop 5 = .ok (.invokevirtual 301, 3) := by decide +kernel
theorem dX9_isStop_8 : decode cX9_isStop 8 = .ok (.invokevirtual 304, 3) := by decide +kernel
theorem dX9_isStop_11 : decode cX9_isStop 11 = .ok (.aload_n 0, 1) := by decide +kernel
theorem dX9_isStop_12 : decode cX9_isStop 12 = .ok (.getfield 157, 3) := by decide +kernel
theorem dX9_isStop_15 : decode cX9_isStop 15 = .ok (.ifCond .ge 40, 3) := by decide +kernel
theorem dX9_isStop_18 : decode cX9_isStop 18 = .ok (.bipush 10, 2) := by decide +kernel
theorem dX9_isStop_20 : decode cX9_isStop 20 = .ok (.aload_n 0, 1) := by decide +kernel
theorem dX9_isStop_21 : decode cX9_isStop 21 = .ok (.getfield 135, 3) := by decide +kernel
theorem dX9_isStop_24 : decode cX9_isStop 24 = .ok (.iconst 0, 1) := by decide +kernel
theorem dX9_isStop_25 : decode cX9_isStop 25 = .ok (.iaload, 1) := by decide +kernel
theorem dX9_isStop_26 : decode cX9_isStop 26 = .ok (.imul, 1) := by decide +kernel
theorem dX9_isStop_27 : decode cX9_isStop 27 = .ok (.bipush 10, 2) := by decide +kernel
theorem dX9_isStop_29 : decode cX9_isStop 29 = .ok (.iadd, 1) := by decide +kernel
theorem dX9_isStop_30 : decode cX9_isStop 30 = .ok (.aload_n 0, 1) := by decide +kernel
theorem dX9_isStop_31 : decode cX9_isStop 31 = .ok (.getfield 160, 3) := by decide +kernel
theorem dX9_isStop_34 : decode cX9_isStop 34 = .ok (.idiv, 1) := by decide +kernel
theorem dX9_isStop_35 : decode cX9_isStop 35 = .ok (.iconst 5, 1) := by decide +kernel
theorem dX9_isStop_36 : decode cX9_isStop 36 = .ok (.aload_n 0, 1) := by decide +kernel
theorem dX9_isStop_37 : decode cX9_isStop 37 = .ok (.getfield 50, 3) := by decide +kernel
theorem dX9_isStop_40 : decode cX9_isStop 40 = .ok (.imul, 1) := by decide +kernel
theorem dX9_isStop_41 : decode cX9_isStop 41 = .ok (.isub, 1) := by decide +kernel
theorem dX9_isStop_42 : decode cX9_isStop 42 = .ok (.bipush 20, 2) := by decide +kernel
theorem dX9_isStop_44 : decode cX9_isStop 44 = .ok (.aload_n 0, 1) := by decide +kernel
theorem dX9_isStop_45 : decode cX9_isStop 45 = .ok (.getfield 135, 3) := by decide +kernel
theorem dX9_isStop_48 : decode cX9_isStop 48 = .ok (.iconst 5, 1) := by decide +kernel
theorem dX9_isStop_49 : decode cX9_isStop 49 = .ok (.iaload, 1) := by decide +kernel
theorem dX9_isStop_50 : decode cX9_isStop 50 = .ok (.imul, 1) := by decide +kernel
theorem dX9_isStop_51 : decode cX9_isStop 51 = .ok (.iadd, 1) := by decide +kernel
theorem dX9_isStop_52 : decode cX9_isStop 52 = .ok (.goto 11, 3) := by decide +kernel
theorem dX9_isStop_55 : decode cX9_isStop 55 = .ok (.aload_n 0, 1) := by decide +kernel
theorem dX9_isStop_56 : decode cX9_isStop 56 = .ok (.aload_n 0, 1) := by decide +kernel
theorem dX9_isStop_57 : decode cX9_isStop 57 = .ok (.getfield 157, 3) := by decide +kernel
theorem dX9_isStop_60 : decode cX9_isStop 60 = .ok (.invokevirtual 307, 3) := by decide +kernel
theorem dX9_isStop_63 : decode cX9_isStop 63 = .ok (.istore_n 3, 1) := by decide +kernel
theorem dX9_isStop_64 : decode cX9_isStop 64 = .ok (.aload_n 0, 1) := by decide +kernel
theorem dX9_isStop_65 : decode cX9_isStop 65 = .ok (.iload_n 1, 1) := by decide +kernel
theorem dX9_isStop_66 : decode cX9_isStop 66 = .ok (.iload_n 2, 1) := by decide +kernel
theorem dX9_isStop_67 : decode cX9_isStop 67 = .ok (.invokevirtual 310, 3) := by decide +kernel
theorem dX9_isStop_70 : decode cX9_isStop 70 = .ok (.iload_n 3, 1) := by decide +kernel
theorem dX9_isStop_71 : decode cX9_isStop 71 = .ok (.if_icmp .ge 7, 3) := by decide +kernel
theorem dX9_isStop_74 : decode cX9_isStop 74 = .ok (.iconst 1, 1) := by decide +kernel
theorem dX9_isStop_75 : decode cX9_isStop 75 = .ok (.goto 4, 3) := by decide +kernel
theorem dX9_isStop_78 : decode cX9_isStop 78 = .ok (.iconst 0, 1) := by decide +kernel
theorem dX9_isStop_79 : decode cX9_isStop 79 = .ok (.ireturn, 1) := by decide +kernel
set_option maxRecDepth 20000 in
theorem ggX9_layStops_X9_isStop : GoodIn wsX9_layStops wsX9_isStop := goodIn_r _ [8, 9, 10, 11, 12, 13, 14, 15, 7, 16, 2, 17, 18, 19, 20, 21, 22, 23, 24, 25, 26, 27, 28, 29, 30, 31, 32, 33, 34, 35, 36, 37, 38, 39, 40, 41, 42, 43, 44, 45, 46, 47, 48, 49, 50, 51, 52, 53, 54, 55, 56, 57, 58, 59, 60, 61, 62, 63, 64, 65, 66, 67, 68, 69, 70, 71, 72, 73, 74, 75, 76, 77, 78, 79, 80, 81, 82, 83, 84, 85, 86, 87, 88, 89, 90, 91, 92, 93, 94, 95, 96, 97, 98, 99, 100, 101, 102, 103, 104, 105, 106, 107, 108, 109, 110, 111, 112, 113, 114, 115, 116] rfl (by decide +kernel)
set_option maxRecDepth 20000 in
theorem gX9_layStops_X9_isStop : GoodIn wsX9_layStops (wsV RX9 313 RX9 yX9_isStop wsX9_isStop) := goodIn_app (goodIn_of _ (by decide +kernel)) ggX9_layStops_X9_isStop
theorem dX9_layStops_0 : decode cX9_layStops 0 = .ok (.iconst 0, 1) := by decide +kernel
theorem dX9_layStops_1 : decode cX9_layStops 1 = .ok (.istore_n 1, 1) := by decide +kernel
theorem dX9_layStops_2 : decode cX9_layStops 2 = .ok (.iload_n 1, 1) := by decide +kernel
theorem dX9_layStops_3 : decode cX9_layStops 3 = .ok (.aload_n 0, 1) := by decide +kernel
theorem dX9_layStops_4 : decode cX9_layStops 4 = .ok (.getfield 13, 3) := by decide +kernel
theorem dX9_layStops_7 : decode cX9_layStops 7 = .ok (.if_icmp .ge 48, 3) := by decide +kernel
theorem dX9_layStops_10 : decode cX9_layStops 10 = .ok (.iconst 0, 1) := by decide +kernel
theorem dX9_layStops_11 : decode cX9_layStops 11 = .ok (.istore_n 2, 1) := by decide +kernel
theorem dX9_layStops_12 : decode cX9_layStops 12 = .ok (.iload_n 2, 1) := by decide +kernel
theorem dX9_layStops_13 : decode cX9_layStops 13 = .ok (.bipush 24, 2) := by decide +kernel
theorem dX9_layStops_15 : decode cX9_layStops 15 = .ok (.aload_n 0, 1) := by decide +kernel
theorem dX9_layStops_16 : decode cX9_layStops 16 = .ok (.getfield 29, 3) := by decide +kernel
theorem dX9_layStops_19 : decode cX9_layStops 19 = .ok (.iload_n 1, 1) := by decide +kernel
theorem dX9_layStops_20 : decode cX9_layStops 20 = .ok (.iaload, 1) := by decide +kernel
theorem dX9_layStops_21 : decode cX9_layStops 21 = .ok (.imul, 1) := by decide +kernel
theorem dX9_layStops_22 : decode cX9_layStops 22 = .ok (.if_icmp .ge 27, 3) := by decide +kernel
theorem dX9_layStops_25 : decode cX9_layStops 25 = .ok (.aload_n 0, 1) := by decide +kernel
theorem dX9_layStops_26 : decode cX9_layStops 26 = .ok (.getfield 153, 3) := by decide +kernel
theorem dX9_layStops_29 : decode cX9_layStops 29 = .ok (.sipush 1440, 3) := by decide +kernel
theorem dX9_layStops_32 : decode cX9_layStops 32 = .ok (.iload_n 1, 1) := by decide +kernel
theorem dX9_layStops_33 : decode cX9_layStops 33 = .ok (.imul, 1) := by decide +kernel
theorem dX9_layStops_34 : decode cX9_layStops 34 = .ok (.iload_n 2, 1) := by decide +kernel
theorem dX9_layStops_35 : decode cX9_layStops 35 = .ok (.iadd, 1) := by decide +kernel
theorem dX9_layStops_36 : decode cX9_layStops 36 = .ok (.aload_n 0, 1) := by decide +kernel
theorem dX9_layStops_37 : decode cX9_layStops 37 = .ok (.iload_n 1, 1) := by decide +kernel
theorem dX9_layStops_38 : decode cX9_layStops 38 = .ok (.iload_n 2, 1) := by decide +kernel
theorem dX9_layStops_39 : decode cX9_layStops 39 = .ok (.invokevirtual 313, 3) := by decide +kernel
theorem dX9_layStops_42 : decode cX9_layStops 42 = .ok (.bastore, 1) := by decide +kernel
theorem dX9_layStops_43 : decode cX9_layStops 43 = .ok (.iinc 2 1, 3) := by decide +kernel
theorem dX9_layStops_46 : decode cX9_layStops 46 = .ok (.goto (-34), 3) := by decide +kernel
theorem dX9_layStops_49 : decode cX9_layStops 49 = .ok (.iinc 1 1, 3) := by decide +kernel
theorem dX9_layStops_52 : decode cX9_layStops 52 = .ok (.goto (-50), 3) := by decide +kernel
theorem dX9_layStops_55 : decode cX9_layStops 55 = .ok (.return_, 1) := by decide +kernel
set_option maxRecDepth 20000 in
theorem ggX9_car_X9_isRoad : GoodIn wsX9_car wsX9_isRoad := goodIn_r _ [6, 7, 8, 9, 10, 5, 11, 67, 68, 69, 70, 71, 72, 73, 74, 75, 76, 77, 78, 79, 80, 81, 82, 83, 84, 85, 86, 87, 88, 89, 90, 91, 92, 93, 94, 95, 96, 97, 98, 99, 100, 101, 102, 103, 104, 105, 106, 107, 108, 109, 110, 111, 112, 113, 114, 115, 116, 117, 118, 119, 120, 121, 122, 123, 124, 125, 126, 127, 128, 129, 130, 131] rfl (by decide +kernel)
set_option maxRecDepth 20000 in
theorem gX9_car_X9_isRoad : GoodIn wsX9_car (wsV RX9 237 RX9 yX9_isRoad wsX9_isRoad) := goodIn_app (goodIn_of _ (by decide +kernel)) ggX9_car_X9_isRoad
set_option maxRecDepth 20000 in
theorem ggX9_car_X9_within : GoodIn wsX9_car wsX9_within := goodIn_r _ [11] rfl (by decide +kernel)
set_option maxRecDepth 20000 in
theorem gX9_car_X9_within : GoodIn wsX9_car (wsV RX9 209 RX9 yX9_within wsX9_within) := goodIn_app (goodIn_of _ (by decide +kernel)) ggX9_car_X9_within
set_option maxRecDepth 20000 in
theorem ggX9_car_X9_asIs : GoodIn wsX9_car wsX9_asIs := goodIn_r _ [15, 16, 17, 18, 19, 20, 21, 22, 23, 67, 68, 69, 70, 71, 72, 73, 74, 75, 76, 77, 78, 79, 80, 81, 82, 83, 84, 85, 86, 87, 88, 89, 90, 91, 92, 93, 94, 95, 96, 97, 98, 99, 100, 101, 102, 103, 104, 105, 106, 107, 108, 109, 110, 111, 112, 113, 114, 115, 116, 117, 118, 119, 120, 121, 122, 123, 124, 125, 126, 127, 128, 129, 130, 131] rfl (by decide +kernel)
set_option maxRecDepth 20000 in
theorem gX9_car_X9_asIs : GoodIn wsX9_car (wsV RX9 316 RX9 yX9_asIs wsX9_asIs) := goodIn_app (goodIn_of _ (by decide +kernel)) ggX9_car_X9_asIs
set_option maxRecDepth 20000 in
theorem ggX9_car_X9_minuteOf : GoodIn wsX9_car wsX9_minuteOf := goodIn_r _ [27, 1, 67, 68, 69, 70, 71, 72, 73, 74, 75, 76, 77, 78, 79, 80, 81, 82, 83, 84, 85, 86, 87, 88, 89, 90, 91, 92, 93, 94, 95, 96, 97, 98, 99, 100, 101, 102, 103, 104, 105, 106, 107, 108, 109, 110, 111, 112, 113, 114, 115, 116, 117, 118, 119, 120, 121, 122, 123, 124, 125, 126, 127, 128, 129, 130, 131] rfl (by decide +kernel)
set_option maxRecDepth 20000 in
theorem gX9_car_X9_minuteOf : GoodIn wsX9_car (wsV RX9 301 RX9 yX9_minuteOf wsX9_minuteOf) := goodIn_app (goodIn_of _ (by decide +kernel)) ggX9_car_X9_minuteOf
set_option maxRecDepth 20000 in
theorem ggX9_car_X9_drawn : GoodIn wsX9_car wsX9_drawn := goodIn_r _ [31, 32, 21, 67, 68, 69, 70, 71, 72, 73, 74, 75, 76, 77, 78, 79, 80, 81, 82, 83, 84, 85, 86, 87, 88, 89, 90, 91, 92, 93, 94, 95, 96, 97, 98, 99, 100, 101, 102, 103, 104, 105, 106, 107, 108, 109, 110, 111, 112, 113, 114, 115, 116, 117, 118, 119, 120, 121, 122, 123, 124, 125, 126, 127, 128, 129, 130, 131] rfl (by decide +kernel)
set_option maxRecDepth 20000 in
theorem gX9_car_X9_drawn : GoodIn wsX9_car (wsV RX9 310 RX9 yX9_drawn wsX9_drawn) := goodIn_app (goodIn_of _ (by decide +kernel)) ggX9_car_X9_drawn
set_option maxRecDepth 20000 in
theorem ggX9_car_X9_isStop : GoodIn wsX9_car wsX9_isStop := goodIn_r _ [36, 17, 37, 19, 38, 24, 25, 26, 5, 27, 1, 39, 40, 41, 42, 43, 44, 45, 46, 23, 47, 48, 49, 50, 51, 52, 53, 54, 55, 56, 57, 58, 59, 60, 61, 62, 63, 64, 65, 66, 28, 29, 30, 31, 32, 21, 67, 68, 69, 70, 71, 72, 73, 74, 75, 76, 77, 78, 79, 80, 81, 82, 83, 84, 85, 86, 87, 88, 89, 90, 91, 92, 93, 94, 95, 96, 97, 98, 99, 100, 101, 102, 103, 104, 105, 106, 107, 108, 109, 110, 111, 112, 113, 114, 115, 116, 117, 118, 119, 120, 121, 122, 123, 124, 125, 126, 127, 128, 129, 130, 131] rfl (by decide +kernel)
set_option maxRecDepth 20000 in
theorem gX9_car_X9_isStop : GoodIn wsX9_car (wsV RX9 313 RX9 yX9_isStop wsX9_isStop) := goodIn_app (goodIn_of _ (by decide +kernel)) ggX9_car_X9_isStop
theorem dX9_car_0 : decode cX9_car 0 = .ok (.aload_n 0, 1) := by decide +kernel
theorem dX9_car_1 : decode cX9_car 1 = .ok (.iload_n 1, 1) := by decide +kernel
theorem dX9_car_2 : decode cX9_car 2 = .ok (.invokevirtual 237, 3) := by decide +kernel
theorem dX9_car_5 : decode cX9_car 5 = .ok (.ifCond .eq 33, 3) := by decide +kernel
theorem dX9_car_8 : decode cX9_car 8 = .ok (.aload_n 0, 1) := by decide +kernel
theorem dX9_car_9 : decode cX9_car 9 = .ok (.iload_n 2, 1) := by decide +kernel
theorem dX9_car_10 : decode cX9_car 10 = .ok (.iconst 0, 1) := by decide +kernel
theorem dX9_car_11 : decode cX9_car 11 = .ok (.bipush 24, 2) := by decide +kernel
theorem dX9_car_13 : decode cX9_car 13 = .ok (.aload_n 0, 1) := by decide +kernel
theorem dX9_car_14 : decode cX9_car 14 = .ok (.getfield 29, 3) := by decide +kernel
theorem dX9_car_17 : decode cX9_car 17 = .ok (.iload_n 1, 1) := by decide +kernel
theorem dX9_car_18 : decode cX9_car 18 = .ok (.iaload, 1) := by decide +kernel
theorem dX9_car_19 : decode cX9_car 19 = .ok (.imul, 1) := by decide +kernel
theorem dX9_car_20 : decode cX9_car 20 = .ok (.iconst 1, 1) := by decide +kernel
theorem dX9_car_21 : decode cX9_car 21 = .ok (.isub, 1) := by decide +kernel
theorem dX9_car_22 : decode cX9_car 22 = .ok (.invokevirtual 209, 3) := by decide +kernel
theorem dX9_car_25 : decode cX9_car 25 = .ok (.ifCond .eq 13, 3) := by decide +kernel
theorem dX9_car_28 : decode cX9_car 28 = .ok (.aload_n 0, 1) := by decide +kernel
theorem dX9_car_29 : decode cX9_car 29 = .ok (.iload_n 3, 1) := by decide +kernel
theorem dX9_car_30 : decode cX9_car 30 = .ok (.iconst 0, 1) := by decide +kernel
theorem dX9_car_31 : decode cX9_car 31 = .ok (.iconst 2, 1) := by decide +kernel
theorem dX9_car_32 : decode cX9_car 32 = .ok (.invokevirtual 209, 3) := by decide +kernel
theorem dX9_car_35 : decode cX9_car 35 = .ok (.ifCond .ne 5, 3) := by decide +kernel
theorem dX9_car_38 : decode cX9_car 38 = .ok (.iconst (-1), 1) := by decide +kernel
theorem dX9_car_39 : decode cX9_car 39 = .ok (.ireturn, 1) := by decide +kernel
theorem dX9_car_40 : decode cX9_car 40 = .ok (.aload_n 0, 1) := by decide +kernel
theorem dX9_car_41 : decode cX9_car 41 = .ok (.invokevirtual 316, 3) := by decide +kernel
theorem dX9_car_44 : decode cX9_car 44 = .ok (.iload_n 3, 1) := by decide +kernel
theorem dX9_car_45 : decode cX9_car 45 = .ok (.ifCond .ne 12, 3) := by decide +kernel
theorem dX9_car_48 : decode cX9_car 48 = .ok (.aload_n 0, 1) := by decide +kernel
theorem dX9_car_49 : decode cX9_car 49 = .ok (.iload_n 1, 1) := by decide +kernel
theorem dX9_car_50 : decode cX9_car 50 = .ok (.iload_n 2, 1) := by decide +kernel
theorem dX9_car_51 : decode cX9_car 51 = .ok (.invokevirtual 301, 3) := by decide +kernel
theorem dX9_car_54 : decode cX9_car 54 = .ok (.goto 31, 3) := by decide +kernel
theorem dX9_car_57 : decode cX9_car 57 = .ok (.iload_n 3, 1) := by decide +kernel
theorem dX9_car_58 : decode cX9_car 58 = .ok (.iconst 1, 1) := by decide +kernel
theorem dX9_car_59 : decode cX9_car 59 = .ok (.if_icmp .ne 12, 3) := by decide +kernel
theorem dX9_car_62 : decode cX9_car 62 = .ok (.aload_n 0, 1) := by decide +kernel
theorem dX9_car_63 : decode cX9_car 63 = .ok (.iload_n 1, 1) := by decide +kernel
theorem dX9_car_64 : decode cX9_car 64 = .ok (.iload_n 2, 1) := by decide +kernel
theorem dX9_car_65 : decode cX9_car 65 = .ok (.invokevirtual 310, 3) := by decide +kernel
theorem dX9_car_68 : decode cX9_car 68 = .ok (.goto 17, 3) := by decide +kernel
theorem dX9_car_71 : decode cX9_car 71 = .ok (.aload_n 0, 1) := by decide +kernel
theorem dX9_car_72 : decode cX9_car 72 = .ok (.iload_n 1, 1) := by decide +kernel
theorem dX9_car_73 : decode cX9_car 73 = .ok (.iload_n 2, 1) := by decide +kernel
theorem dX9_car_74 : decode cX9_car 74 = .ok (.invokevirtual 313, 3) := by decide +kernel
theorem dX9_car_77 : decode cX9_car 77 = .ok (.ifCond .eq 7, 3) := by decide +kernel
theorem dX9_car_80 : decode cX9_car 80 = .ok (.iconst 1, 1) := by decide +kernel
theorem dX9_car_81 : decode cX9_car 81 = .ok (.goto 4, 3) := by decide +kernel
theorem dX9_car_84 : decode cX9_car 84 = .ok (.iconst 0, 1) := by decide +kernel
theorem dX9_car_85 : decode cX9_car 85 = .ok (.ireturn, 1) := by decide +kernel
set_option maxRecDepth 20000 in
theorem ggX9_layAway_X9_isPlace : GoodIn wsX9_layAway wsX9_isPlace := goodIn_r _ [10, 11, 12, 13, 14, 9, 15, 16, 17, 18, 19, 20, 21, 22, 23, 24, 25, 26, 27, 28, 29, 30, 31, 32, 33, 34, 35, 36, 37, 38, 39, 40, 41, 42, 43, 44, 45, 46, 47, 48, 49, 50, 51, 52, 53, 54, 55, 56, 57, 58, 59, 60, 61, 62, 63, 64, 65, 66, 67, 68, 69, 70, 71, 72, 73, 74, 75, 76, 77, 78, 79, 80] rfl (by decide +kernel)
set_option maxRecDepth 20000 in
theorem gX9_layAway_X9_isPlace : GoodIn wsX9_layAway (wsV RX9 213 RX9 yX9_isPlace wsX9_isPlace) := goodIn_app (goodIn_of _ (by decide +kernel)) ggX9_layAway_X9_isPlace
theorem dX9_layAway_0 : decode cX9_layAway 0 = .ok (.iconst 0, 1) := by decide +kernel
theorem dX9_layAway_1 : decode cX9_layAway 1 = .ok (.istore_n 2, 1) := by decide +kernel
theorem dX9_layAway_2 : decode cX9_layAway 2 = .ok (.iload_n 2, 1) := by decide +kernel
theorem dX9_layAway_3 : decode cX9_layAway 3 = .ok (.bipush 8, 2) := by decide +kernel
theorem dX9_layAway_5 : decode cX9_layAway 5 = .ok (.if_icmp .ge 35, 3) := by decide +kernel
theorem dX9_layAway_8 : decode cX9_layAway 8 = .ok (.aload_n 0, 1) := by decide +kernel
theorem dX9_layAway_9 : decode cX9_layAway 9 = .ok (.getfield 169, 3) := by decide +kernel
theorem dX9_layAway_12 : decode cX9_layAway 12 = .ok (.iload_n 2, 1) := by decide +kernel
theorem dX9_layAway_13 : decode cX9_layAway 13 = .ok (.iload_n 2, 1) := by decide +kernel
theorem dX9_layAway_14 : decode cX9_layAway 14 = .ok (.iload_n 1, 1) := by decide +kernel
theorem dX9_layAway_15 : decode cX9_layAway 15 = .ok (.if_icmp .ne 15, 3) := by decide +kernel
theorem dX9_layAway_18 : decode cX9_layAway 18 = .ok (.aload_n 0, 1) := by decide +kernel
theorem dX9_layAway_19 : decode cX9_layAway 19 = .ok (.iload_n 1, 1) := by decide +kernel
theorem dX9_layAway_20 : decode cX9_layAway 20 = .ok (.invokevirtual 213, 3) := by decide +kernel
theorem dX9_layAway_23 : decode cX9_layAway 23 = .ok (.ifCond .eq 7, 3) := by decide +kernel
theorem dX9_layAway_26 : decode cX9_layAway 26 = .ok (.iconst 0, 1) := by decide +kernel
theorem dX9_layAway_27 : decode cX9_layAway 27 = .ok (.goto 6, 3) := by decide +kernel
theorem dX9_layAway_30 : decode cX9_layAway 30 = .ok (.sipush 9999, 3) := by decide +kernel
theorem dX9_layAway_33 : decode cX9_layAway 33 = .ok (.iastore, 1) := by decide +kernel
theorem dX9_layAway_34 : decode cX9_layAway 34 = .ok (.iinc 2 1, 3) := by decide +kernel
theorem dX9_layAway_37 : decode cX9_layAway 37 = .ok (.goto (-35), 3) := by decide +kernel
theorem dX9_layAway_40 : decode cX9_layAway 40 = .ok (.iconst 0, 1) := by decide +kernel
theorem dX9_layAway_41 : decode cX9_layAway 41 = .ok (.istore_n 2, 1) := by decide +kernel
theorem dX9_layAway_42 : decode cX9_layAway 42 = .ok (.iload_n 2, 1) := by decide +kernel
theorem dX9_layAway_43 : decode cX9_layAway 43 = .ok (.bipush 8, 2) := by decide +kernel
theorem dX9_layAway_45 : decode cX9_layAway 45 = .ok (.if_icmp .ge 91, 3) := by decide +kernel
theorem dX9_layAway_48 : decode cX9_layAway 48 = .ok (.iconst 0, 1) := by decide +kernel
theorem dX9_layAway_49 : decode cX9_layAway 49 = .ok (.istore_n 3, 1) := by decide +kernel
theorem dX9_layAway_50 : decode cX9_layAway 50 = .ok (.iload_n 3, 1) := by decide +kernel
theorem dX9_layAway_51 : decode cX9_layAway 51 = .ok (.aload_n 0, 1) := by decide +kernel
theorem dX9_layAway_52 : decode cX9_layAway 52 = .ok (.getfield 13, 3) := by decide +kernel
theorem dX9_layAway_55 : decode cX9_layAway 55 = .ok (.if_icmp .ge 75, 3) := by decide +kernel
theorem dX9_layAway_58 : decode cX9_layAway 58 = .ok (.aload_n 0, 1) := by decide +kernel
theorem dX9_layAway_59 : decode cX9_layAway 59 = .ok (.getfield 169, 3) := by decide +kernel
theorem dX9_layAway_62 : decode cX9_layAway 62 = .ok (.aload_n 0, 1) := by decide +kernel
theorem dX9_layAway_63 : decode cX9_layAway 63 = .ok (.getfield 26, 3) := by decide +kernel
theorem dX9_layAway_66 : decode cX9_layAway 66 = .ok (.iload_n 3, 1) := by decide +kernel
theorem dX9_layAway_67 : decode cX9_layAway 67 = .ok (.iaload, 1) := by decide +kernel
theorem dX9_layAway_68 : decode cX9_layAway 68 = .ok (.iaload, 1) := by decide +kernel
theorem dX9_layAway_69 : decode cX9_layAway 69 = .ok (.aload_n 0, 1) := by decide +kernel
theorem dX9_layAway_70 : decode cX9_layAway 70 = .ok (.getfield 32, 3) := by decide +kernel
theorem dX9_layAway_73 : decode cX9_layAway 73 = .ok (.iload_n 3, 1) := by decide +kernel
theorem dX9_layAway_74 : decode cX9_layAway 74 = .ok (.iaload, 1) := by decide +kernel
theorem dX9_layAway_75 : decode cX9_layAway 75 = .ok (.iadd, 1) := by decide +kernel
theorem dX9_layAway_76 : decode cX9_layAway 76 = .ok (.istore 4, 2) := by decide +kernel
theorem dX9_layAway_78 : decode cX9_layAway 78 = .ok (.aload_n 0, 1) := by decide +kernel
theorem dX9_layAway_79 : decode cX9_layAway 79 = .ok (.getfield 169, 3) := by decide +kernel
theorem dX9_layAway_82 : decode cX9_layAway 82 = .ok (.aload_n 0, 1) := by decide +kernel
theorem dX9_layAway_83 : decode cX9_layAway 83 = .ok (.getfield 26, 3) := by decide +kernel
theorem dX9_layAway_86 : decode cX9_layAway 86 = .ok (.iload_n 3, 1) := by decide +kernel
theorem dX9_layAway_87 : decode cX9_layAway 87 = .ok (.iaload, 1) := by decide +kernel
theorem dX9_layAway_88 : decode cX9_layAway 88 = .ok (.iaload, 1) := by decide +kernel
theorem dX9_layAway_89 : decode cX9_layAway 89 = .ok (.sipush 9999, 3) := by decide +kernel
theorem dX9_layAway_92 : decode cX9_layAway 92 = .ok (.if_icmp .ge 32, 3) := by decide +kernel
theorem dX9_layAway_95 : decode cX9_layAway 95 = .ok (.iload 4, 2) := by decide +kernel
theorem dX9_layAway_97 : decode cX9_layAway 97 = .ok (.aload_n 0, 1) := by decide +kernel
theorem dX9_layAway_98 : decode cX9_layAway 98 = .ok (.getfield 169, 3) := by decide +kernel
theorem dX9_layAway_101 : decode cX9_layAway 101 = .ok (.aload_n 0, 1) := by decide +kernel
theorem dX9_layAway_102 : decode cX9_layAway 102 = .ok (.getfield 23, 3) := by decide +kernel
theorem dX9_layAway_105 : decode cX9_layAway 105 = .ok (.iload_n 3, 1) := by decide +kernel
theorem dX9_layAway_106 : decode cX9_layAway 106 = .ok (.iaload, 1) := by decide +kernel
theorem dX9_layAway_107 : decode cX9_layAway 107 = .ok (.iaload, 1) := by decide +kernel
theorem dX9_layAway_108 : decode cX9_layAway 108 = .ok (.if_icmp .ge 16, 3) := by decide +kernel
theorem dX9_layAway_111 : decode cX9_layAway 111 = .ok (.aload_n 0, 1) := by decide +kernel
theorem dX9_layAway_112 : decode cX9_layAway 112 = .ok (.getfield 169, 3) := by decide +kernel
theorem dX9_layAway_115 : decode cX9_layAway 115 = .ok (.aload_n 0, 1) := by decide +kernel
theorem dX9_layAway_116 : decode cX9_layAway 116 = .ok (.getfield 23, 3) := by decide +kernel
theorem dX9_layAway_119 : decode cX9_layAway 119 = .ok (.iload_n 3, 1) := by decide +kernel
theorem dX9_layAway_120 : decode cX9_layAway 120 = .ok (.iaload, 1) := by decide +kernel
theorem dX9_layAway_121 : decode cX9_layAway 121 = .ok (.iload 4, 2) := by decide +kernel
theorem dX9_layAway_123 : decode cX9_layAway 123 = .ok (.iastore, 1) := by decide +kernel
theorem dX9_layAway_124 : decode cX9_layAway 124 = .ok (.iinc 3 1, 3) := by decide +kernel
theorem dX9_layAway_127 : decode cX9_layAway 127 = .ok (.goto (-77), 3) := by decide +kernel
theorem dX9_layAway_130 : decode cX9_layAway 130 = .ok (.iinc 2 1, 3) := by decide +kernel
theorem dX9_layAway_133 : decode cX9_layAway 133 = .ok (.goto (-91), 3) := by decide +kernel
theorem dX9_layAway_136 : decode cX9_layAway 136 = .ok (.return_, 1) := by decide +kernel
set_option maxRecDepth 20000 in
theorem ggX9_far_X9_isPair : GoodIn wsX9_far wsX9_isPair := goodIn_r _ [6, 7, 8, 9, 5, 10, 11, 12, 13, 14, 15, 24, 25, 26, 27, 28, 29, 30, 31, 32, 33, 34, 35, 36, 37, 38, 39, 40, 41, 42, 43, 44, 45, 46, 47, 48, 49, 50, 51, 52, 53, 54, 55, 56, 57, 58, 59, 60, 61, 62, 63, 64, 65, 66, 67, 68, 69, 70, 71, 72, 73, 74, 75, 76, 77, 78, 79, 80, 81, 82, 83, 84, 85, 86, 87, 88] rfl (by decide +kernel)
set_option maxRecDepth 20000 in
theorem gX9_far_X9_isPair : GoodIn wsX9_far (wsV RX9 217 RX9 yX9_isPair wsX9_isPair) := goodIn_app (goodIn_of _ (by decide +kernel)) ggX9_far_X9_isPair
set_option maxRecDepth 20000 in
theorem ggX9_far_X9_layAway : GoodIn wsX9_far wsX9_layAway := goodIn_r _ [19, 1, 20, 21, 22, 23, 11, 12, 13, 5, 14, 15, 7, 8, 9, 10, 24, 25, 26, 27, 28, 29, 30, 31, 32, 33, 34, 35, 36, 37, 38, 39, 40, 41, 42, 43, 44, 45, 46, 47, 48, 49, 50, 51, 52, 53, 54, 55, 56, 57, 58, 59, 60, 61, 62, 63, 64, 65, 66, 67, 68, 69, 70, 71, 72, 73, 74, 75, 76, 77, 78, 79, 80, 81, 82, 83, 84, 85, 86, 87, 88] rfl (by decide +kernel)
set_option maxRecDepth 20000 in
theorem gX9_far_X9_layAway : GoodIn wsX9_far (wsV RX9 319 RX9 yX9_layAway wsX9_layAway) := goodIn_app (goodIn_of _ (by decide +kernel)) ggX9_far_X9_layAway
theorem dX9_far_0 : decode cX9_far 0 = .ok (.aload_n 0, 1) := by decide +kernel
theorem dX9_far_1 : decode cX9_far 1 = .ok (.iload_n 1, 1) := by decide +kernel
theorem dX9_far_2 : decode cX9_far 2 = .ok (.invokevirtual 217, 3) := by decide +kernel
theorem dX9_far_5 : decode cX9_far 5 = .ok (.ifCond .ne 5, 3) := by decide +kernel
theorem dX9_far_8 : decode cX9_far 8 = .ok (.iconst (-1), 1) := by decide +kernel
theorem dX9_far_9 : decode cX9_far 9 = .ok (.ireturn, 1) := by decide +kernel
theorem dX9_far_10 : decode cX9_far 10 = .ok (.aload_n 0, 1) := by decide +kernel
theorem dX9_far_11 : decode cX9_far 11 = .ok (.iload_n 1, 1) := by decide +kernel
theorem dX9_far_12 : decode cX9_far 12 = .ok (.bipush 10, 2) := by decide +kernel
theorem dX9_far_14 : decode cX9_far 14 = .ok (.irem, 1) := by decide +kernel
theorem dX9_far_15 : decode cX9_far 15 = .ok (.invokevirtual 319, 3) := by decide +kernel
theorem dX9_far_18 : decode cX9_far 18 = .ok (.aload_n 0, 1) := by decide +kernel
theorem dX9_far_19 : decode cX9_far 19 = .ok (.getfield 169, 3) := by decide +kernel
theorem dX9_far_22 : decode cX9_far 22 = .ok (.iload_n 1, 1) := by decide +kernel
theorem dX9_far_23 : decode cX9_far 23 = .ok (.bipush 10, 2) := by decide +kernel
theorem dX9_far_25 : decode cX9_far 25 = .ok (.idiv, 1) := by decide +kernel
theorem dX9_far_26 : decode cX9_far 26 = .ok (.iaload, 1) := by decide +kernel
theorem dX9_far_27 : decode cX9_far 27 = .ok (.ireturn, 1) := by decide +kernel
set_option maxRecDepth 20000 in
theorem ggX9_carIn_X9_minuteOf : GoodIn wsX9_carIn wsX9_minuteOf := goodIn_r _ [6, 1, 7, 8, 9, 10, 11, 12, 13, 14, 15, 16, 17, 18, 19, 20, 21, 22, 23, 24, 25, 26, 27, 28, 29, 30, 31, 32, 33, 34, 35, 36, 37, 38, 39, 40, 41, 42, 43, 44, 45, 46, 47, 48, 49, 50, 51, 52, 53, 54, 55, 56, 57, 58, 59, 60, 61, 62, 63, 64, 65, 66, 67, 68, 69, 70, 71] rfl (by decide +kernel)
set_option maxRecDepth 20000 in
theorem gX9_carIn_X9_minuteOf : GoodIn wsX9_carIn (wsV RX9 301 RX9 yX9_minuteOf wsX9_minuteOf) := goodIn_app (goodIn_of _ (by decide +kernel)) ggX9_carIn_X9_minuteOf
theorem dX9_carIn_0 : decode cX9_carIn 0 = .ok (.iload_n 2, 1) := by decide +kernel
theorem dX9_carIn_1 : decode cX9_carIn 1 = .ok (.aload_n 0, 1) := by decide +kernel
theorem dX9_carIn_2 : decode cX9_carIn 2 = .ok (.getfield 29, 3) := by decide +kernel
theorem dX9_carIn_5 : decode cX9_carIn 5 = .ok (.iload_n 1, 1) := by decide +kernel
theorem dX9_carIn_6 : decode cX9_carIn 6 = .ok (.iaload, 1) := by decide +kernel
theorem dX9_carIn_7 : decode cX9_carIn 7 = .ok (.imul, 1) := by decide +kernel
theorem dX9_carIn_8 : decode cX9_carIn 8 = .ok (.bipush 59, 2) := by decide +kernel
theorem dX9_carIn_10 : decode cX9_carIn 10 = .ok (.iadd, 1) := by decide +kernel
theorem dX9_carIn_11 : decode cX9_carIn 11 = .ok (.bipush 60, 2) := by decide +kernel
theorem dX9_carIn_13 : decode cX9_carIn 13 = .ok (.idiv, 1) := by decide +kernel
theorem dX9_carIn_14 : decode cX9_carIn 14 = .ok (.istore_n 3, 1) := by decide +kernel
theorem dX9_carIn_15 : decode cX9_carIn 15 = .ok (.iload_n 3, 1) := by decide +kernel
theorem dX9_carIn_16 : decode cX9_carIn 16 = .ok (.bipush 24, 2) := by decide +kernel
theorem dX9_carIn_18 : decode cX9_carIn 18 = .ok (.aload_n 0, 1) := by decide +kernel
theorem dX9_carIn_19 : decode cX9_carIn 19 = .ok (.getfield 29, 3) := by decide +kernel
theorem dX9_carIn_22 : decode cX9_carIn 22 = .ok (.iload_n 1, 1) := by decide +kernel
theorem dX9_carIn_23 : decode cX9_carIn 23 = .ok (.iaload, 1) := by decide +kernel
theorem dX9_carIn_24 : decode cX9_carIn 24 = .ok (.imul, 1) := by decide +kernel
theorem dX9_carIn_25 : decode cX9_carIn 25 = .ok (.if_icmp .ge 17, 3) := by decide +kernel
theorem dX9_carIn_28 : decode cX9_carIn 28 = .ok (.aload_n 0, 1) := by decide +kernel
theorem dX9_carIn_29 : decode cX9_carIn 29 = .ok (.iload_n 1, 1) := by decide +kernel
theorem dX9_carIn_30 : decode cX9_carIn 30 = .ok (.iload_n 3, 1) := by decide +kernel
theorem dX9_carIn_31 : decode cX9_carIn 31 = .ok (.invokevirtual 301, 3) := by decide +kernel
theorem dX9_carIn_34 : decode cX9_carIn 34 = .ok (.iload_n 2, 1) := by decide +kernel
theorem dX9_carIn_35 : decode cX9_carIn 35 = .ok (.if_icmp .ne 7, 3) := by decide +kernel
theorem dX9_carIn_38 : decode cX9_carIn 38 = .ok (.iload_n 3, 1) := by decide +kernel
theorem dX9_carIn_39 : decode cX9_carIn 39 = .ok (.goto 4, 3) := by decide +kernel
theorem dX9_carIn_42 : decode cX9_carIn 42 = .ok (.iconst (-1), 1) := by decide +kernel
theorem dX9_carIn_43 : decode cX9_carIn 43 = .ok (.ireturn, 1) := by decide +kernel
set_option maxRecDepth 20000 in
theorem ggX9_isHere_X9_carIn : GoodIn wsX9_isHere wsX9_carIn := goodIn_r _ [7, 8, 9, 10, 11, 6, 12, 13, 14, 15, 16, 17, 18, 19, 20, 21, 22, 23, 24, 25, 26, 27, 28, 29, 30, 31, 32, 33, 34, 35, 36, 37, 38, 39, 40, 41, 42, 43, 44, 45, 46, 47, 48, 49, 50, 51, 52, 53, 54, 55, 56, 57, 58, 59, 60, 61, 62, 63, 64, 65, 66, 67, 68, 69, 70, 71, 72, 73, 74, 75, 76, 77] rfl (by decide +kernel)
set_option maxRecDepth 20000 in
theorem gX9_isHere_X9_carIn : GoodIn wsX9_isHere (wsV RX9 323 RX9 yX9_carIn wsX9_carIn) := goodIn_app (goodIn_of _ (by decide +kernel)) ggX9_isHere_X9_carIn
theorem dX9_isHere_0 : decode cX9_isHere 0 = .ok (.aload_n 0, 1) := by decide +kernel
theorem dX9_isHere_1 : decode cX9_isHere 1 = .ok (.getfield 23, 3) := by decide +kernel
theorem dX9_isHere_4 : decode cX9_isHere 4 = .ok (.iload_n 1, 1) := by decide +kernel
theorem dX9_isHere_5 : decode cX9_isHere 5 = .ok (.iaload, 1) := by decide +kernel
theorem dX9_isHere_6 : decode cX9_isHere 6 = .ok (.iload_n 2, 1) := by decide +kernel
theorem dX9_isHere_7 : decode cX9_isHere 7 = .ok (.if_icmp .eq 5, 3) := by decide +kernel
theorem dX9_isHere_10 : decode cX9_isHere 10 = .ok (.iconst 0, 1) := by decide +kernel
theorem dX9_isHere_11 : decode cX9_isHere 11 = .ok (.ireturn, 1) := by decide +kernel
theorem dX9_isHere_12 : decode cX9_isHere 12 = .ok (.aload_n 0, 1) := by decide +kernel
theorem dX9_isHere_13 : decode cX9_isHere 13 = .ok (.iload_n 1, 1) := by decide +kernel
theorem dX9_isHere_14 : decode cX9_isHere 14 = .ok (.iload_n 3, 1) := by decide +kernel
theorem dX9_isHere_15 : decode cX9_isHere 15 = .ok (.invokevirtual 323, 3) := by decide +kernel
theorem dX9_isHere_18 : decode cX9_isHere 18 = .ok (.istore 4, 2) := by decide +kernel
theorem dX9_isHere_20 : decode cX9_isHere 20 = .ok (.iload 4, 2) := by decide +kernel
theorem dX9_isHere_22 : decode cX9_isHere 22 = .ok (.ifCond .lt 23, 3) := by decide +kernel
theorem dX9_isHere_25 : decode cX9_isHere 25 = .ok (.aload_n 0, 1) := by decide +kernel
theorem dX9_isHere_26 : decode cX9_isHere 26 = .ok (.getfield 153, 3) := by decide +kernel
theorem dX9_isHere_29 : decode cX9_isHere 29 = .ok (.sipush 1440, 3) := by decide +kernel
theorem dX9_isHere_32 : decode cX9_isHere 32 = .ok (.iload_n 1, 1) := by decide +kernel
theorem dX9_isHere_33 : decode cX9_isHere 33 = .ok (.imul, 1) := by decide +kernel
theorem dX9_isHere_34 : decode cX9_isHere 34 = .ok (.iload 4, 2) := by decide +kernel
theorem dX9_isHere_36 : decode cX9_isHere 36 = .ok (.iadd, 1) := by decide +kernel
theorem dX9_isHere_37 : decode cX9_isHere 37 = .ok (.baload, 1) := by decide +kernel
theorem dX9_isHere_38 : decode cX9_isHere 38 = .ok (.ifCond .eq 7, 3) := by decide +kernel
theorem dX9_isHere_41 : decode cX9_isHere 41 = .ok (.iconst 1, 1) := by decide +kernel
theorem dX9_isHere_42 : decode cX9_isHere 42 = .ok (.goto 4, 3) := by decide +kernel
theorem dX9_isHere_45 : decode cX9_isHere 45 = .ok (.iconst 0, 1) := by decide +kernel
theorem dX9_isHere_46 : decode cX9_isHere 46 = .ok (.ireturn, 1) := by decide +kernel
set_option maxRecDepth 20000 in
theorem ggX9_kthAt_X9_isHere : GoodIn wsX9_kthAt wsX9_isHere := goodIn_r _ [6, 7, 8, 9, 10, 11, 5, 12, 13, 14, 15, 16, 17, 18, 19, 20, 21, 22, 23, 24, 25, 26, 27, 28, 29, 30, 31, 32, 33, 34, 35, 36, 37, 38, 39, 40, 41, 42, 43, 44, 45, 46, 47, 48, 49, 50, 51, 52, 53, 54, 55, 56, 57, 58, 59, 60, 61, 62, 63, 64, 65, 66, 67, 68, 69, 70, 71, 72, 73, 74, 75, 76, 77, 78, 79, 80, 81, 82] rfl (by decide +kernel)
set_option maxRecDepth 20000 in
theorem gX9_kthAt_X9_isHere : GoodIn wsX9_kthAt (wsV RX9 326 RX9 yX9_isHere wsX9_isHere) := goodIn_app (goodIn_of _ (by decide +kernel)) ggX9_kthAt_X9_isHere
theorem dX9_kthAt_0 : decode cX9_kthAt 0 = .ok (.iload_n 3, 1) := by decide +kernel
theorem dX9_kthAt_1 : decode cX9_kthAt 1 = .ok (.istore 4, 2) := by decide +kernel
theorem dX9_kthAt_3 : decode cX9_kthAt 3 = .ok (.iload_n 2, 1) := by decide +kernel
theorem dX9_kthAt_4 : decode cX9_kthAt 4 = .ok (.istore 5, 2) := by decide +kernel
theorem dX9_kthAt_6 : decode cX9_kthAt 6 = .ok (.iload 5, 2) := by decide +kernel
theorem dX9_kthAt_8 : decode cX9_kthAt 8 = .ok (.sipush 1440, 3) := by decide +kernel
theorem dX9_kthAt_11 : decode cX9_kthAt 11 = .ok (.if_icmp .ge 53, 3) := by decide +kernel
theorem dX9_kthAt_14 : decode cX9_kthAt 14 = .ok (.iconst 0, 1) := by decide +kernel
theorem dX9_kthAt_15 : decode cX9_kthAt 15 = .ok (.istore 6, 2) := by decide +kernel
theorem dX9_kthAt_17 : decode cX9_kthAt 17 = .ok (.iload 6, 2) := by decide +kernel
theorem dX9_kthAt_19 : decode cX9_kthAt 19 = .ok (.aload_n 0, 1) := by decide +kernel
theorem dX9_kthAt_20 : decode cX9_kthAt 20 = .ok (.getfield 13, 3) := by decide +kernel
theorem dX9_kthAt_23 : decode cX9_kthAt 23 = .ok (.if_icmp .ge 35, 3) := by decide +kernel
theorem dX9_kthAt_26 : decode cX9_kthAt 26 = .ok (.aload_n 0, 1) := by decide +kernel
theorem dX9_kthAt_27 : decode cX9_kthAt 27 = .ok (.iload 6, 2) := by decide +kernel
theorem dX9_kthAt_29 : decode cX9_kthAt 29 = .ok (.iload_n 1, 1) := by decide +kernel
theorem dX9_kthAt_30 : decode cX9_kthAt 30 = .ok (.iload 5, 2) := by decide +kernel
theorem dX9_kthAt_32 : decode cX9_kthAt 32 = .ok (.invokevirtual 326, 3) := by decide +kernel
theorem dX9_kthAt_35 : decode cX9_kthAt 35 = .ok (.ifCond .ne 6, 3) := by decide +kernel
theorem dX9_kthAt_38 : decode cX9_kthAt 38 = .ok (.goto 14, 3) := by decide +kernel
theorem dX9_kthAt_41 : decode cX9_kthAt 41 = .ok (.iinc 4 (-1), 3) := by decide +kernel
theorem dX9_kthAt_44 : decode cX9_kthAt 44 = .ok (.iload 4, 2) := by decide +kernel
theorem dX9_kthAt_46 : decode cX9_kthAt 46 = .ok (.ifCond .ne 6, 3) := by decide +kernel
theorem dX9_kthAt_49 : decode cX9_kthAt 49 = .ok (.iload 5, 2) := by decide +kernel
theorem dX9_kthAt_51 : decode cX9_kthAt 51 = .ok (.ireturn, 1) := by decide +kernel
theorem dX9_kthAt_52 : decode cX9_kthAt 52 = .ok (.iinc 6 1, 3) := by decide +kernel
theorem dX9_kthAt_55 : decode cX9_kthAt 55 = .ok (.goto (-38), 3) := by decide +kernel
theorem dX9_kthAt_58 : decode cX9_kthAt 58 = .ok (.iinc 5 1, 3) := by decide +kernel
theorem dX9_kthAt_61 : decode cX9_kthAt 61 = .ok (.goto (-55), 3) := by decide +kernel
theorem dX9_kthAt_64 : decode cX9_kthAt 64 = .ok (.bipush (-2), 2) := by decide +kernel
theorem dX9_kthAt_66 : decode cX9_kthAt 66 = .ok (.ireturn, 1) := by decide +kernel
set_option maxRecDepth 20000 in
theorem ggX9_waitAt_X9_kthAt : GoodIn wsX9_waitAt wsX9_kthAt := goodIn_r _ [5, 6, 7, 8, 9, 4, 10, 11, 12, 13, 14, 15, 16, 17, 18, 19, 20, 21, 22, 23, 24, 25, 26, 27, 28, 29, 30, 31, 32, 33, 34, 35, 36, 37, 38, 39, 40, 41, 42, 43, 44, 45, 46, 47, 48, 49, 50, 51, 52, 53, 54, 55, 56, 57, 58, 59, 60, 61, 62, 63, 64, 65, 66, 67, 68, 69, 70, 71, 72, 73, 74, 75, 76, 77, 78, 79, 80, 81, 82, 83, 84, 85, 86] rfl (by decide +kernel)
set_option maxRecDepth 20000 in
theorem gX9_waitAt_X9_kthAt : GoodIn wsX9_waitAt (wsV RX9 329 RX9 yX9_kthAt wsX9_kthAt) := goodIn_app (goodIn_of _ (by decide +kernel)) ggX9_waitAt_X9_kthAt
theorem dX9_waitAt_0 : decode cX9_waitAt 0 = .ok (.aload_n 0, 1) := by decide +kernel
theorem dX9_waitAt_1 : decode cX9_waitAt 1 = .ok (.iload_n 1, 1) := by decide +kernel
theorem dX9_waitAt_2 : decode cX9_waitAt 2 = .ok (.iload_n 2, 1) := by decide +kernel
theorem dX9_waitAt_3 : decode cX9_waitAt 3 = .ok (.iconst 1, 1) := by decide +kernel
theorem dX9_waitAt_4 : decode cX9_waitAt 4 = .ok (.invokevirtual 329, 3) := by decide +kernel
theorem dX9_waitAt_7 : decode cX9_waitAt 7 = .ok (.istore_n 3, 1) := by decide +kernel
theorem dX9_waitAt_8 : decode cX9_waitAt 8 = .ok (.iload_n 3, 1) := by decide +kernel
theorem dX9_waitAt_9 : decode cX9_waitAt 9 = .ok (.ifCond .ge 8, 3) := by decide +kernel
theorem dX9_waitAt_12 : decode cX9_waitAt 12 = .ok (.bipush (-2), 2) := by decide +kernel
theorem dX9_waitAt_14 : decode cX9_waitAt 14 = .ok (.goto 6, 3) := by decide +kernel
theorem dX9_waitAt_17 : decode cX9_waitAt 17 = .ok (.iload_n 3, 1) := by decide +kernel
theorem dX9_waitAt_18 : decode cX9_waitAt 18 = .ok (.iload_n 2, 1) := by decide +kernel
theorem dX9_waitAt_19 : decode cX9_waitAt 19 = .ok (.isub, 1) := by decide +kernel
theorem dX9_waitAt_20 : decode cX9_waitAt 20 = .ok (.ireturn, 1) := by decide +kernel
set_option maxRecDepth 20000 in
theorem ggX9_isMinute_X9_within : GoodIn wsX9_isMinute wsX9_within := goodIn_r _ [5] rfl (by decide +kernel)
set_option maxRecDepth 20000 in
theorem gX9_isMinute_X9_within : GoodIn wsX9_isMinute (wsV RX9 209 RX9 yX9_within wsX9_within) := goodIn_app (goodIn_of _ (by decide +kernel)) ggX9_isMinute_X9_within
theorem dX9_isMinute_0 : decode cX9_isMinute 0 = .ok (.aload_n 0, 1) := by decide +kernel
theorem dX9_isMinute_1 : decode cX9_isMinute 1 = .ok (.iload_n 1, 1) := by decide +kernel
theorem dX9_isMinute_2 : decode cX9_isMinute 2 = .ok (.iconst 0, 1) := by decide +kernel
theorem dX9_isMinute_3 : decode cX9_isMinute 3 = .ok (.sipush 1439, 3) := by decide +kernel
theorem dX9_isMinute_6 : decode cX9_isMinute 6 = .ok (.invokevirtual 209, 3) := by decide +kernel
theorem dX9_isMinute_9 : decode cX9_isMinute 9 = .ok (.ireturn, 1) := by decide +kernel
set_option maxRecDepth 20000 in
theorem ggX9_waits_X9_isPlace : GoodIn wsX9_waits wsX9_isPlace := goodIn_r _ [5, 6, 7, 8, 9, 4, 10, 93, 94, 95, 96, 97, 98, 99, 100, 101, 102, 103, 104, 105, 106, 107, 108, 109, 110, 111, 112, 113, 114, 115, 116, 117, 118, 119, 120, 121, 122, 123, 124, 125, 126, 127, 128, 129, 130, 131, 132, 133, 134, 135, 136, 137, 138, 139, 140, 141, 142, 143, 144, 145, 146, 147, 148, 149, 150, 151, 152, 153, 154, 155, 156, 157] rfl (by decide +kernel)
set_option maxRecDepth 20000 in
theorem gX9_waits_X9_isPlace : GoodIn wsX9_waits (wsV RX9 213 RX9 yX9_isPlace wsX9_isPlace) := goodIn_app (goodIn_of _ (by decide +kernel)) ggX9_waits_X9_isPlace
set_option maxRecDepth 20000 in
theorem ggX9_waits_X9_isMinute : GoodIn wsX9_waits wsX9_isMinute := goodIn_r _ [14, 7, 8, 9, 4, 10] rfl (by decide +kernel)
set_option maxRecDepth 20000 in
theorem gX9_waits_X9_isMinute : GoodIn wsX9_waits (wsV RX9 332 RX9 yX9_isMinute wsX9_isMinute) := goodIn_app (goodIn_of _ (by decide +kernel)) ggX9_waits_X9_isMinute
set_option maxRecDepth 20000 in
theorem ggX9_waits_X9_asIs : GoodIn wsX9_waits wsX9_asIs := goodIn_r _ [18, 19, 20, 21, 22, 23, 24, 25, 26, 93, 94, 95, 96, 97, 98, 99, 100, 101, 102, 103, 104, 105, 106, 107, 108, 109, 110, 111, 112, 113, 114, 115, 116, 117, 118, 119, 120, 121, 122, 123, 124, 125, 126, 127, 128, 129, 130, 131, 132, 133, 134, 135, 136, 137, 138, 139, 140, 141, 142, 143, 144, 145, 146, 147, 148, 149, 150, 151, 152, 153, 154, 155, 156, 157] rfl (by decide +kernel)
set_option maxRecDepth 20000 in
theorem gX9_waits_X9_asIs : GoodIn wsX9_waits (wsV RX9 316 RX9 yX9_asIs wsX9_asIs) := goodIn_app (goodIn_of _ (by decide +kernel)) ggX9_waits_X9_asIs
set_option maxRecDepth 20000 in
theorem ggX9_waits_X9_layStops : GoodIn wsX9_waits wsX9_layStops := goodIn_r _ [30, 31, 32, 33, 34, 35, 36, 4, 37, 20, 38, 22, 39, 40, 41, 42, 43, 44, 45, 46, 47, 48, 49, 50, 51, 26, 52, 53, 54, 55, 56, 57, 58, 59, 60, 61, 62, 63, 64, 65, 66, 67, 68, 69, 70, 71, 72, 73, 74, 75, 76, 24, 93, 94, 95, 96, 97, 98, 99, 100, 101, 102, 103, 104, 105, 106, 107, 108, 109, 110, 111, 112, 113, 114, 115, 116, 117, 118, 119, 120, 121, 122, 123, 124, 125, 126, 127, 128, 129, 130, 131, 132, 133, 134, 135, 136, 137, 138, 139, 140, 141, 142, 143, 144, 145, 146, 147, 148, 149, 150, 151, 152, 153, 154, 155, 156, 157] rfl (by decide +kernel)
set_option maxRecDepth 20000 in
theorem gX9_waits_X9_layStops : GoodIn wsX9_waits (wsV RX9 335 RX9 yX9_layStops wsX9_layStops) := goodIn_app (goodIn_of _ (by decide +kernel)) ggX9_waits_X9_layStops
set_option maxRecDepth 20000 in
theorem ggX9_waits_X9_waitAt : GoodIn wsX9_waits wsX9_waitAt := goodIn_r _ [80, 81, 82, 83, 4, 84, 31, 85, 86, 87, 88, 48, 33, 89, 90, 91, 92, 32, 40, 41, 42, 43, 93, 94, 95, 96, 97, 98, 99, 100, 101, 102, 103, 104, 105, 106, 107, 108, 109, 110, 111, 112, 113, 114, 115, 116, 117, 118, 119, 120, 121, 122, 123, 124, 125, 126, 127, 128, 129, 130, 131, 132, 133, 134, 135, 136, 137, 138, 139, 140, 141, 142, 143, 144, 145, 146, 147, 148, 149, 150, 151, 152, 153, 154, 155, 156, 157] rfl (by decide +kernel)
set_option maxRecDepth 20000 in
theorem gX9_waits_X9_waitAt : GoodIn wsX9_waits (wsV RX9 338 RX9 yX9_waitAt wsX9_waitAt) := goodIn_app (goodIn_of _ (by decide +kernel)) ggX9_waits_X9_waitAt
theorem dX9_waits_0 : decode cX9_waits 0 = .ok (.aload_n 0, 1) := by decide +kernel
theorem dX9_waits_1 : decode cX9_waits 1 = .ok (.iload_n 1, 1) := by decide +kernel
theorem dX9_waits_2 : decode cX9_waits 2 = .ok (.invokevirtual 213, 3) := by decide +kernel
theorem dX9_waits_5 : decode cX9_waits 5 = .ok (.ifCond .eq 11, 3) := by decide +kernel
theorem dX9_waits_8 : decode cX9_waits 8 = .ok (.aload_n 0, 1) := by decide +kernel
theorem dX9_waits_9 : decode cX9_waits 9 = .ok (.iload_n 2, 1) := by decide +kernel
theorem dX9_waits_10 : decode cX9_waits 10 = .ok (.invokevirtual 332, 3) := by decide +kernel
theorem dX9_waits_13 : decode cX9_waits 13 = .ok (.ifCond .ne 5, 3) := by decide +kernel
theorem dX9_waits_16 : decode cX9_waits 16 = .ok (.iconst (-1), 1) := by decide +kernel
theorem dX9_waits_17 : decode cX9_waits 17 = .ok (.ireturn, 1) := by decide +kernel
theorem dX9_waits_18 : decode cX9_waits 18 = .ok (.aload_n 0, 1) := by decide +kernel
theorem dX9_waits_19 : decode cX9_waits 19 = .ok (.invokevirtual 316, 3) := by decide +kernel
theorem dX9_waits_22 : decode cX9_waits 22 = .ok (.aload_n 0, 1) := by decide +kernel
theorem dX9_waits_23 : decode cX9_waits 23 = .ok (.invokevirtual 335, 3) := by decide +kernel
theorem dX9_waits_26 : decode cX9_waits 26 = .ok (.aload_n 0, 1) := by decide +kernel
theorem dX9_waits_27 : decode cX9_waits 27 = .ok (.iload_n 1, 1) := by decide +kernel
theorem dX9_waits_28 : decode cX9_waits 28 = .ok (.iload_n 2, 1) := by decide +kernel
theorem dX9_waits_29 : decode cX9_waits 29 = .ok (.invokevirtual 338, 3) := by decide +kernel
theorem dX9_waits_32 : decode cX9_waits 32 = .ok (.ireturn, 1) := by decide +kernel
