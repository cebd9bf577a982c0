set_option maxRecDepth 20000 in
theorem ggX8_taken_X8_shelfAt : GoodIn wsX8_taken wsX8_shelfAt := goodIn_r _ [8, 9, 30, 31, 32, 33, 34, 35, 36, 37, 38, 39, 40, 41, 42, 43, 44, 45] rfl (by decide +kernel)
set_option maxRecDepth 20000 in
theorem gX8_taken_X8_shelfAt : GoodIn wsX8_taken (wsV RX8 87 RX8 yX8_shelfAt wsX8_shelfAt) := goodIn_app (goodIn_of _ (by decide +kernel)) ggX8_taken_X8_shelfAt
set_option maxRecDepth 20000 in
theorem ggX8_taken_X5_holdsNothing : GoodIn wsX8_taken wsX5_holdsNothing := goodIn_r _ [14, 15, 46, 47, 48, 49] rfl (by decide +kernel)
set_option maxRecDepth 20000 in
theorem gX8_taken_X5_holdsNothing : GoodIn wsX8_taken (wsV RX8 91 RX5 yX5_holdsNothing wsX5_holdsNothing) := goodIn_app (goodIn_of _ (by decide +kernel)) ggX8_taken_X5_holdsNothing
set_option maxRecDepth 20000 in
theorem ggX8_taken_X5_holdsRow : GoodIn wsX8_taken wsX5_holdsRow := goodIn_r _ [19, 15, 46, 47, 48, 49] rfl (by decide +kernel)
set_option maxRecDepth 20000 in
theorem gX8_taken_X5_holdsRow : GoodIn wsX8_taken (wsV RX8 299 RX5 yX5_holdsRow wsX5_holdsRow) := goodIn_app (goodIn_of _ (by decide +kernel)) ggX8_taken_X5_holdsRow
set_option maxRecDepth 20000 in
theorem ggX8_taken_X0_has : GoodIn wsX8_taken wsX0_has := goodIn_r _ [24, 25, 50, 51, 52, 53, 54, 55] rfl (by decide +kernel)
set_option maxRecDepth 20000 in
theorem gX8_taken_X0_has : GoodIn wsX8_taken (wsV RX8 280 RX0 yX0_has wsX0_has) := goodIn_app (goodIn_of _ (by decide +kernel)) ggX8_taken_X0_has
set_option maxRecDepth 20000 in
theorem ggX8_taken_X0_isUnder : GoodIn wsX8_taken wsX0_isUnder := goodIn_r _ [28, 29] rfl (by decide +kernel)
set_option maxRecDepth 20000 in
theorem gX8_taken_X0_isUnder : GoodIn wsX8_taken (va_wsS RX8 321 yX0_isUnder wsX0_isUnder) := goodIn_app (goodIn_of _ (by decide +kernel)) ggX8_taken_X0_isUnder
theorem dX8_taken_0 : decode cX8_taken 0 = .ok (.aload_n 0, 1) := by decide +kernel
theorem dX8_taken_1 : decode cX8_taken 1 = .ok (.iload_n 1, 1) := by decide +kernel
theorem dX8_taken_2 : decode cX8_taken 2 = .ok (.invokevirtual 87, 3) := by decide +kernel
theorem dX8_taken_5 : decode cX8_taken 5 = .ok (.astore_n 3, 1) := by decide +kernel
theorem dX8_taken_6 : decode cX8_taken 6 = .ok (.aload_n 3, 1) := by decide +kernel
theorem dX8_taken_7 : decode cX8_taken 7 = .ok (.ifnull 13, 3) := by decide +kernel
theorem dX8_taken_10 : decode cX8_taken 10 = .ok (.iload_n 2, 1) := by decide +kernel
theorem dX8_taken_11 : decode cX8_taken 11 = .ok (.ifCond .lt 9, 3) := by decide +kernel
theorem dX8_taken_14 : decode cX8_taken 14 = .ok (.iload_n 2, 1) := by decide +kernel
theorem dX8_taken_15 : decode cX8_taken 15 = .ok (.bipush 8, 2) := by decide +kernel
theorem dX8_taken_17 : decode cX8_taken 17 = .ok (.if_icmp .lt 5, 3) := by decide +kernel
theorem dX8_taken_20 : decode cX8_taken 20 = .ok (.iconst (-1), 1) := by decide +kernel
theorem dX8_taken_21 : decode cX8_taken 21 = .ok (.ireturn, 1) := by decide +kernel
theorem dX8_taken_22 : decode cX8_taken 22 = .ok (.aload_n 3, 1) := by decide +kernel
theorem dX8_taken_23 : decode cX8_taken 23 = .ok (.invokevirtual 91, 3) := by decide +kernel
theorem dX8_taken_26 : decode cX8_taken 26 = .ok (.ifCond .eq 6, 3) := by decide +kernel
theorem dX8_taken_29 : decode cX8_taken 29 = .ok (.bipush (-11), 2) := by decide +kernel
theorem dX8_taken_31 : decode cX8_taken 31 = .ok (.ireturn, 1) := by decide +kernel
theorem dX8_taken_32 : decode cX8_taken 32 = .ok (.aload_n 3, 1) := by decide +kernel
theorem dX8_taken_33 : decode cX8_taken 33 = .ok (.invokevirtual 299, 3) := by decide +kernel
theorem dX8_taken_36 : decode cX8_taken 36 = .ok (.ifCond .ne 17, 3) := by decide +kernel
theorem dX8_taken_39 : decode cX8_taken 39 = .ok (.aload_n 0, 1) := by decide +kernel
theorem dX8_taken_40 : decode cX8_taken 40 = .ok (.getfield 66, 3) := by decide +kernel
theorem dX8_taken_43 : decode cX8_taken 43 = .ok (.aload_n 3, 1) := by decide +kernel
theorem dX8_taken_44 : decode cX8_taken 44 = .ok (.getfield 315, 3) := by decide +kernel
theorem dX8_taken_47 : decode cX8_taken 47 = .ok (.invokevirtual 280, 3) := by decide +kernel
theorem dX8_taken_50 : decode cX8_taken 50 = .ok (.ifCond .ne 6, 3) := by decide +kernel
theorem dX8_taken_53 : decode cX8_taken 53 = .ok (.bipush (-12), 2) := by decide +kernel
theorem dX8_taken_55 : decode cX8_taken 55 = .ok (.ireturn, 1) := by decide +kernel
theorem dX8_taken_56 : decode cX8_taken 56 = .ok (.aload_n 0, 1) := by decide +kernel
theorem dX8_taken_57 : decode cX8_taken 57 = .ok (.getfield 66, 3) := by decide +kernel
theorem dX8_taken_60 : decode cX8_taken 60 = .ok (.getfield 318, 3) := by decide +kernel
theorem dX8_taken_63 : decode cX8_taken 63 = .ok (.aload_n 3, 1) := by decide +kernel
theorem dX8_taken_64 : decode cX8_taken 64 = .ok (.getfield 315, 3) := by decide +kernel
theorem dX8_taken_67 : decode cX8_taken 67 = .ok (.iaload, 1) := by decide +kernel
theorem dX8_taken_68 : decode cX8_taken 68 = .ok (.istore 4, 2) := by decide +kernel
theorem dX8_taken_70 : decode cX8_taken 70 = .ok (.iload 4, 2) := by decide +kernel
theorem dX8_taken_72 : decode cX8_taken 72 = .ok (.iload_n 2, 1) := by decide +kernel
theorem dX8_taken_73 : decode cX8_taken 73 = .ok (.invokestatic 321, 3) := by decide +kernel
theorem dX8_taken_76 : decode cX8_taken 76 = .ok (.ifCond .eq 8, 3) := by decide +kernel
theorem dX8_taken_79 : decode cX8_taken 79 = .ok (.iload 4, 2) := by decide +kernel
theorem dX8_taken_81 : decode cX8_taken 81 = .ok (.goto 5, 3) := by decide +kernel
theorem dX8_taken_84 : decode cX8_taken 84 = .ok (.bipush (-12), 2) := by decide +kernel
theorem dX8_taken_86 : decode cX8_taken 86 = .ok (.ireturn, 1) := by decide +kernel
theorem dX8_count_0 : decode cX8_count 0 = .ok (.iload_n 1, 1) := by decide +kernel
theorem dX8_count_1 : decode cX8_count 1 = .ok (.tableswitch 93 0 6 #[43, 51, 59, 64, 69, 77, 85], 43) := by decide +kernel
theorem dX8_count_44 : decode cX8_count 44 = .ok (.aload_n 0, 1) := by decide +kernel
theorem dX8_count_45 : decode cX8_count 45 = .ok (.getfield 20, 3) := by decide +kernel
theorem dX8_count_48 : decode cX8_count 48 = .ok (.getfield 231, 3) := by decide +kernel
theorem dX8_count_51 : decode cX8_count 51 = .ok (.ireturn, 1) := by decide +kernel
theorem dX8_count_52 : decode cX8_count 52 = .ok (.aload_n 0, 1) := by decide +kernel
theorem dX8_count_53 : decode cX8_count 53 = .ok (.getfield 20, 3) := by decide +kernel
theorem dX8_count_56 : decode cX8_count 56 = .ok (.getfield 324, 3) := by decide +kernel
theorem dX8_count_59 : decode cX8_count 59 = .ok (.ireturn, 1) := by decide +kernel
theorem dX8_count_60 : decode cX8_count 60 = .ok (.aload_n 0, 1) := by decide +kernel
theorem dX8_count_61 : decode cX8_count 61 = .ok (.getfield 169, 3) := by decide +kernel
theorem dX8_count_64 : decode cX8_count 64 = .ok (.ireturn, 1) := by decide +kernel
theorem dX8_count_65 : decode cX8_count 65 = .ok (.aload_n 0, 1) := by decide +kernel
theorem dX8_count_66 : decode cX8_count 66 = .ok (.getfield 166, 3) := by decide +kernel
theorem dX8_count_69 : decode cX8_count 69 = .ok (.ireturn, 1) := by decide +kernel
theorem dX8_count_70 : decode cX8_count 70 = .ok (.aload_n 0, 1) := by decide +kernel
theorem dX8_count_71 : decode cX8_count 71 = .ok (.getfield 24, 3) := by decide +kernel
theorem dX8_count_74 : decode cX8_count 74 = .ok (.getfield 327, 3) := by decide +kernel
theorem dX8_count_77 : decode cX8_count 77 = .ok (.ireturn, 1) := by decide +kernel
theorem dX8_count_78 : decode cX8_count 78 = .ok (.aload_n 0, 1) := by decide +kernel
theorem dX8_count_79 : decode cX8_count 79 = .ok (.getfield 66, 3) := by decide +kernel
theorem dX8_count_82 : decode cX8_count 82 = .ok (.getfield 330, 3) := by decide +kernel
theorem dX8_count_85 : decode cX8_count 85 = .ok (.ireturn, 1) := by decide +kernel
theorem dX8_count_86 : decode cX8_count 86 = .ok (.aload_n 0, 1) := by decide +kernel
theorem dX8_count_87 : decode cX8_count 87 = .ok (.getfield 66, 3) := by decide +kernel
theorem dX8_count_90 : decode cX8_count 90 = .ok (.getfield 333, 3) := by decide +kernel
theorem dX8_count_93 : decode cX8_count 93 = .ok (.ireturn, 1) := by decide +kernel
theorem dX8_count_94 : decode cX8_count 94 = .ok (.iconst (-1), 1) := by decide +kernel
theorem dX8_count_95 : decode cX8_count 95 = .ok (.ireturn, 1) := by decide +kernel
theorem dX8_isMinute_0 : decode cX8_isMinute 0 = .ok (.iload_n 0, 1) := by decide +kernel
theorem dX8_isMinute_1 : decode cX8_isMinute 1 = .ok (.ifCond .lt 14, 3) := by decide +kernel
theorem dX8_isMinute_4 : decode cX8_isMinute 4 = .ok (.iload_n 0, 1) := by decide +kernel
theorem dX8_isMinute_5 : decode cX8_isMinute 5 = .ok (.sipush 1440, 3) := by decide +kernel
theorem dX8_isMinute_8 : decode cX8_isMinute 8 = .ok (.if_icmp .ge 7, 3) := by decide +kernel
theorem dX8_isMinute_11 : decode cX8_isMinute 11 = .ok (.iconst 1, 1) := by decide +kernel
theorem dX8_isMinute_12 : decode cX8_isMinute 12 = .ok (.goto 4, 3) := by decide +kernel
theorem dX8_isMinute_15 : decode cX8_isMinute 15 = .ok (.iconst 0, 1) := by decide +kernel
theorem dX8_isMinute_16 : decode cX8_isMinute 16 = .ok (.ireturn, 1) := by decide +kernel
theorem dX8_isSeeds_0 : decode cX8_isSeeds 0 = .ok (.iload_n 0, 1) := by decide +kernel
theorem dX8_isSeeds_1 : decode cX8_isSeeds 1 = .ok (.iconst 1, 1) := by decide +kernel
theorem dX8_isSeeds_2 : decode cX8_isSeeds 2 = .ok (.if_icmp .lt 13, 3) := by decide +kernel
theorem dX8_isSeeds_5 : decode cX8_isSeeds 5 = .ok (.iload_n 0, 1) := by decide +kernel
theorem dX8_isSeeds_6 : decode cX8_isSeeds 6 = .ok (.bipush 40, 2) := by decide +kernel
theorem dX8_isSeeds_8 : decode cX8_isSeeds 8 = .ok (.if_icmp .gt 7, 3) := by decide +kernel
theorem dX8_isSeeds_11 : decode cX8_isSeeds 11 = .ok (.iconst 1, 1) := by decide +kernel
theorem dX8_isSeeds_12 : decode cX8_isSeeds 12 = .ok (.goto 4, 3) := by decide +kernel
theorem dX8_isSeeds_15 : decode cX8_isSeeds 15 = .ok (.iconst 0, 1) := by decide +kernel
theorem dX8_isSeeds_16 : decode cX8_isSeeds 16 = .ok (.ireturn, 1) := by decide +kernel
set_option maxRecDepth 20000 in
theorem ggX8_isMoment_X3_hasPlace : GoodIn wsX8_isMoment wsX3_hasPlace := goodIn_r _ [6, 7, 28, 29, 30, 31, 32, 33, 34, 35, 36, 37] rfl (by decide +kernel)
set_option maxRecDepth 20000 in
theorem gX8_isMoment_X3_hasPlace : GoodIn wsX8_isMoment (wsV RX8 135 RX3 yX3_hasPlace wsX3_hasPlace) := goodIn_app (goodIn_of _ (by decide +kernel)) ggX8_isMoment_X3_hasPlace
set_option maxRecDepth 20000 in
theorem ggX8_isMoment_X8_isMinute : GoodIn wsX8_isMoment wsX8_isMinute := goodIn_r _ [11] rfl (by decide +kernel)
set_option maxRecDepth 20000 in
theorem gX8_isMoment_X8_isMinute : GoodIn wsX8_isMoment (va_wsS RX8 199 yX8_isMinute wsX8_isMinute) := goodIn_app (goodIn_of _ (by decide +kernel)) ggX8_isMoment_X8_isMinute
theorem dX8_isMoment_0 : decode cX8_isMoment 0 = .ok (.iload_n 1, 1) := by decide +kernel
theorem dX8_isMoment_1 : decode cX8_isMoment 1 = .ok (.ifCond .lt 33, 3) := by decide +kernel
theorem dX8_isMoment_4 : decode cX8_isMoment 4 = .ok (.aload_n 0, 1) := by decide +kernel
theorem dX8_isMoment_5 : decode cX8_isMoment 5 = .ok (.getfield 20, 3) := by decide +kernel
theorem dX8_isMoment_8 : decode cX8_isMoment 8 = .ok (.iload_n 1, 1) := by decide +kernel
theorem dX8_isMoment_9 : decode cX8_isMoment 9 = .ok (.sipush 10000, 3) := by decide +kernel
theorem dX8_isMoment_12 : decode cX8_isMoment 12 = .ok (.idiv, 1) := by decide +kernel
theorem dX8_isMoment_13 : decode cX8_isMoment 13 = .ok (.invokevirtual 135, 3) := by decide +kernel
theorem dX8_isMoment_16 : decode cX8_isMoment 16 = .ok (.ifCond .eq 18, 3) := by decide +kernel
theorem dX8_isMoment_19 : decode cX8_isMoment 19 = .ok (.iload_n 1, 1) := by decide +kernel
theorem dX8_isMoment_20 : decode cX8_isMoment 20 = .ok (.sipush 10000, 3) := by decide +kernel
theorem dX8_isMoment_23 : decode cX8_isMoment 23 = .ok (.irem, 1) := by decide +kernel
theorem dX8_isMoment_24 : decode cX8_isMoment 24 = .ok (.invokestatic 199, 3) := by decide +kernel
theorem dX8_isMoment_27 : decode cX8_isMoment 27 = .ok (.ifCond .eq 7, 3) := by decide +kernel
theorem dX8_isMoment_30 : decode cX8_isMoment 30 = .ok (.iconst 1, 1) := by decide +kernel
theorem dX8_isMoment_31 : decode cX8_isMoment 31 = .ok (.goto 4, 3) := by decide +kernel
theorem dX8_isMoment_34 : decode cX8_isMoment 34 = .ok (.iconst 0, 1) := by decide +kernel
theorem dX8_isMoment_35 : decode cX8_isMoment 35 = .ok (.ireturn, 1) := by decide +kernel
theorem dX8_orNot_0 : decode cX8_orNot 0 = .ok (.iload_n 0, 1) := by decide +kernel
theorem dX8_orNot_1 : decode cX8_orNot 1 = .ok (.ldc 206, 2) := by decide +kernel
theorem dX8_orNot_3 : decode cX8_orNot 3 = .ok (.if_icmp .ne 8, 3) := by decide +kernel
theorem dX8_orNot_6 : decode cX8_orNot 6 = .ok (.bipush (-2), 2) := by decide +kernel
theorem dX8_orNot_8 : decode cX8_orNot 8 = .ok (.goto 4, 3) := by decide +kernel
theorem dX8_orNot_11 : decode cX8_orNot 11 = .ok (.iload_n 0, 1) := by decide +kernel
theorem dX8_orNot_12 : decode cX8_orNot 12 = .ok (.ireturn, 1) := by decide +kernel
set_option maxRecDepth 20000 in
theorem ggX8_maySet_X8_isMinute : GoodIn wsX8_maySet wsX8_isMinute := goodIn_r _ [4] rfl (by decide +kernel)
set_option maxRecDepth 20000 in
theorem gX8_maySet_X8_isMinute : GoodIn wsX8_maySet (va_wsS RX8 199 yX8_isMinute wsX8_isMinute) := goodIn_app (goodIn_of _ (by decide +kernel)) ggX8_maySet_X8_isMinute
theorem dX8_maySet_0 : decode cX8_maySet 0 = .ok (.iload_n 0, 1) := by decide +kernel
theorem dX8_maySet_1 : decode cX8_maySet 1 = .ok (.tableswitch 104 0 4 #[35, 51, 56, 72, 87], 35) := by decide +kernel
theorem dX8_maySet_36 : decode cX8_maySet 36 = .ok (.iload_n 1, 1) := by decide +kernel
theorem dX8_maySet_37 : decode cX8_maySet 37 = .ok (.ifCond .lt 13, 3) := by decide +kernel
theorem dX8_maySet_40 : decode cX8_maySet 40 = .ok (.iload_n 1, 1) := by decide +kernel
theorem dX8_maySet_41 : decode cX8_maySet 41 = .ok (.bipush 8, 2) := by decide +kernel
theorem dX8_maySet_43 : decode cX8_maySet 43 = .ok (.if_icmp .ge 7, 3) := by decide +kernel
theorem dX8_maySet_46 : decode cX8_maySet 46 = .ok (.iconst 1, 1) := by decide +kernel
theorem dX8_maySet_47 : decode cX8_maySet 47 = .ok (.goto 4, 3) := by decide +kernel
theorem dX8_maySet_50 : decode cX8_maySet 50 = .ok (.iconst 0, 1) := by decide +kernel
theorem dX8_maySet_51 : decode cX8_maySet 51 = .ok (.ireturn, 1) := by decide +kernel
theorem dX8_maySet_52 : decode cX8_maySet 52 = .ok (.iload_n 1, 1) := by decide +kernel
theorem dX8_maySet_53 : decode cX8_maySet 53 = .ok (.invokestatic 199, 3) := by decide +kernel
theorem dX8_maySet_56 : decode cX8_maySet 56 = .ok (.ireturn, 1) := by decide +kernel
theorem dX8_maySet_57 : decode cX8_maySet 57 = .ok (.iload_n 1, 1) := by decide +kernel
theorem dX8_maySet_58 : decode cX8_maySet 58 = .ok (.iconst 1, 1) := by decide +kernel
theorem dX8_maySet_59 : decode cX8_maySet 59 = .ok (.if_icmp .eq 8, 3) := by decide +kernel
theorem dX8_maySet_62 : decode cX8_maySet 62 = .ok (.iload_n 1, 1) := by decide +kernel
theorem dX8_maySet_63 : decode cX8_maySet 63 = .ok (.iconst 2, 1) := by decide +kernel
theorem dX8_maySet_64 : decode cX8_maySet 64 = .ok (.if_icmp .ne 7, 3) := by decide +kernel
theorem dX8_maySet_67 : decode cX8_maySet 67 = .ok (.iconst 1, 1) := by decide +kernel
theorem dX8_maySet_68 : decode cX8_maySet 68 = .ok (.goto 4, 3) := by decide +kernel
theorem dX8_maySet_71 : decode cX8_maySet 71 = .ok (.iconst 0, 1) := by decide +kernel
theorem dX8_maySet_72 : decode cX8_maySet 72 = .ok (.ireturn, 1) := by decide +kernel
theorem dX8_maySet_73 : decode cX8_maySet 73 = .ok (.iload_n 1, 1) := by decide +kernel
theorem dX8_maySet_74 : decode cX8_maySet 74 = .ok (.ifCond .eq 8, 3) := by decide +kernel
theorem dX8_maySet_77 : decode cX8_maySet 77 = .ok (.iload_n 1, 1) := by decide +kernel
theorem dX8_maySet_78 : decode cX8_maySet 78 = .ok (.iconst 1, 1) := by decide +kernel
theorem dX8_maySet_79 : decode cX8_maySet 79 = .ok (.if_icmp .ne 7, 3) := by decide +kernel
theorem dX8_maySet_82 : decode cX8_maySet 82 = .ok (.iconst 1, 1) := by decide +kernel
theorem dX8_maySet_83 : decode cX8_maySet 83 = .ok (.goto 4, 3) := by decide +kernel
theorem dX8_maySet_86 : decode cX8_maySet 86 = .ok (.iconst 0, 1) := by decide +kernel
theorem dX8_maySet_87 : decode cX8_maySet 87 = .ok (.ireturn, 1) := by decide +kernel
theorem dX8_maySet_88 : decode cX8_maySet 88 = .ok (.iload_n 1, 1) := by decide +kernel
theorem dX8_maySet_89 : decode cX8_maySet 89 = .ok (.iconst (-1), 1) := by decide +kernel
theorem dX8_maySet_90 : decode cX8_maySet 90 = .ok (.if_icmp .lt 13, 3) := by decide +kernel
theorem dX8_maySet_93 : decode cX8_maySet 93 = .ok (.iload_n 1, 1) := by decide +kernel
theorem dX8_maySet_94 : decode cX8_maySet 94 = .ok (.bipush 8, 2) := by decide +kernel
theorem dX8_maySet_96 : decode cX8_maySet 96 = .ok (.if_icmp .ge 7, 3) := by decide +kernel
theorem dX8_maySet_99 : decode cX8_maySet 99 = .ok (.iconst 1, 1) := by decide +kernel
theorem dX8_maySet_100 : decode cX8_maySet 100 = .ok (.goto 4, 3) := by decide +kernel
theorem dX8_maySet_103 : decode cX8_maySet 103 = .ok (.iconst 0, 1) := by decide +kernel
theorem dX8_maySet_104 : decode cX8_maySet 104 = .ok (.ireturn, 1) := by decide +kernel
theorem dX8_maySet_105 : decode cX8_maySet 105 = .ok (.iload_n 0, 1) := by decide +kernel
theorem dX8_maySet_106 : decode cX8_maySet 106 = .ok (.iconst 5, 1) := by decide +kernel
theorem dX8_maySet_107 : decode cX8_maySet 107 = .ok (.if_icmp .ne 7, 3) := by decide +kernel
theorem dX8_maySet_110 : decode cX8_maySet 110 = .ok (.iconst 1, 1) := by decide +kernel
theorem dX8_maySet_111 : decode cX8_maySet 111 = .ok (.goto 4, 3) := by decide +kernel
theorem dX8_maySet_114 : decode cX8_maySet 114 = .ok (.iconst 0, 1) := by decide +kernel
theorem dX8_maySet_115 : decode cX8_maySet 115 = .ok (.ireturn, 1) := by decide +kernel
theorem dX8_lowestTerms_0 : decode cX8_lowestTerms 0 = .ok (.iload_n 1, 1) := by decide +kernel
theorem dX8_lowestTerms_1 : decode cX8_lowestTerms 1 = .ok (.istore_n 3, 1) := by decide +kernel
theorem dX8_lowestTerms_2 : decode cX8_lowestTerms 2 = .ok (.iload_n 0, 1) := by decide +kernel
theorem dX8_lowestTerms_3 : decode cX8_lowestTerms 3 = .ok (.istore 4, 2) := by decide +kernel
theorem dX8_lowestTerms_5 : decode cX8_lowestTerms 5 = .ok (.iconst 0, 1) := by decide +kernel
theorem dX8_lowestTerms_6 : decode cX8_lowestTerms 6 = .ok (.istore 5, 2) := by decide +kernel
theorem dX8_lowestTerms_8 : decode cX8_lowestTerms 8 = .ok (.iload 5, 2) := by decide +kernel
theorem dX8_lowestTerms_10 : decode cX8_lowestTerms 10 = .ok (.bipush 40, 2) := by decide +kernel
theorem dX8_lowestTerms_12 : decode cX8_lowestTerms 12 = .ok (.if_icmp .ge 27, 3) := by decide +kernel
theorem dX8_lowestTerms_15 : decode cX8_lowestTerms 15 = .ok (.iload 4, 2) := by decide +kernel
theorem dX8_lowestTerms_17 : decode cX8_lowestTerms 17 = .ok (.ifCond .le 22, 3) := by decide +kernel
theorem dX8_lowestTerms_20 : decode cX8_lowestTerms 20 = .ok (.iload_n 3, 1) := by decide +kernel
theorem dX8_lowestTerms_21 : decode cX8_lowestTerms 21 = .ok (.iload 4, 2) := by decide +kernel
theorem dX8_lowestTerms_23 : decode cX8_lowestTerms 23 = .ok (.irem, 1) := by decide +kernel
theorem dX8_lowestTerms_24 : decode cX8_lowestTerms 24 = .ok (.istore 6, 2) := by decide +kernel
theorem dX8_lowestTerms_26 : decode cX8_lowestTerms 26 = .ok (.iload 4, 2) := by decide +kernel
theorem dX8_lowestTerms_28 : decode cX8_lowestTerms 28 = .ok (.istore_n 3, 1) := by decide +kernel
theorem dX8_lowestTerms_29 : decode cX8_lowestTerms 29 = .ok (.iload 6, 2) := by decide +kernel
theorem dX8_lowestTerms_31 : decode cX8_lowestTerms 31 = .ok (.istore 4, 2) := by decide +kernel
theorem dX8_lowestTerms_33 : decode cX8_lowestTerms 33 = .ok (.iinc 5 1, 3) := by decide +kernel
theorem dX8_lowestTerms_36 : decode cX8_lowestTerms 36 = .ok (.goto (-28), 3) := by decide +kernel
theorem dX8_lowestTerms_39 : decode cX8_lowestTerms 39 = .ok (.iload_n 3, 1) := by decide +kernel
theorem dX8_lowestTerms_40 : decode cX8_lowestTerms 40 = .ok (.iconst 1, 1) := by decide +kernel
theorem dX8_lowestTerms_41 : decode cX8_lowestTerms 41 = .ok (.if_icmp .ge 5, 3) := by decide +kernel
theorem dX8_lowestTerms_44 : decode cX8_lowestTerms 44 = .ok (.iconst (-1), 1) := by decide +kernel
theorem dX8_lowestTerms_45 : decode cX8_lowestTerms 45 = .ok (.ireturn, 1) := by decide +kernel
theorem dX8_lowestTerms_46 : decode cX8_lowestTerms 46 = .ok (.iload_n 2, 1) := by decide +kernel
theorem dX8_lowestTerms_47 : decode cX8_lowestTerms 47 = .ok (.ifCond .ne 7, 3) := by decide +kernel
theorem dX8_lowestTerms_50 : decode cX8_lowestTerms 50 = .ok (.iload_n 0, 1) := by decide +kernel
theorem dX8_lowestTerms_51 : decode cX8_lowestTerms 51 = .ok (.goto 4, 3) := by decide +kernel
theorem dX8_lowestTerms_54 : decode cX8_lowestTerms 54 = .ok (.iload_n 1, 1) := by decide +kernel
theorem dX8_lowestTerms_55 : decode cX8_lowestTerms 55 = .ok (.iload_n 3, 1) := by decide +kernel
theorem dX8_lowestTerms_56 : decode cX8_lowestTerms 56 = .ok (.idiv, 1) := by decide +kernel
theorem dX8_lowestTerms_57 : decode cX8_lowestTerms 57 = .ok (.ireturn, 1) := by decide +kernel
theorem dX8_shelfAt_0 : decode cX8_shelfAt 0 = .ok (.iload_n 1, 1) := by decide +kernel
theorem dX8_shelfAt_1 : decode cX8_shelfAt 1 = .ok (.ifCond .lt 18, 3) := by decide +kernel
theorem dX8_shelfAt_4 : decode cX8_shelfAt 4 = .ok (.iload_n 1, 1) := by decide +kernel
theorem dX8_shelfAt_5 : decode cX8_shelfAt 5 = .ok (.bipush 6, 2) := by decide +kernel
theorem dX8_shelfAt_7 : decode cX8_shelfAt 7 = .ok (.if_icmp .ge 12, 3) := by decide +kernel
theorem dX8_shelfAt_10 : decode cX8_shelfAt 10 = .ok (.aload_n 0, 1) := by decide +kernel
theorem dX8_shelfAt_11 : decode cX8_shelfAt 11 = .ok (.getfield 72, 3) := by decide +kernel
theorem dX8_shelfAt_14 : decode cX8_shelfAt 14 = .ok (.iload_n 1, 1) := by decide +kernel
theorem dX8_shelfAt_15 : decode cX8_shelfAt 15 = .ok (.aaload, 1) := by decide +kernel
theorem dX8_shelfAt_16 : decode cX8_shelfAt 16 = .ok (.goto 4, 3) := by decide +kernel
theorem dX8_shelfAt_19 : decode cX8_shelfAt 19 = .ok (.aconst_null, 1) := by decide +kernel
theorem dX8_shelfAt_20 : decode cX8_shelfAt 20 = .ok (.areturn, 1) := by decide +kernel
set_option maxRecDepth 20000 in
theorem ggX8_refusalOf_X8_shelfAt : GoodIn wsX8_refusalOf wsX8_shelfAt := goodIn_r _ [5, 6, 23, 24, 25, 26, 27, 28, 29, 30, 31, 32, 33, 34, 35, 36, 37, 38] rfl (by decide +kernel)
set_option maxRecDepth 20000 in
theorem gX8_refusalOf_X8_shelfAt : GoodIn wsX8_refusalOf (wsV RX8 87 RX8 yX8_shelfAt wsX8_shelfAt) := goodIn_app (goodIn_of _ (by decide +kernel)) ggX8_refusalOf_X8_shelfAt
set_option maxRecDepth 20000 in
theorem ggX8_refusalOf_X5_holdsNothing : GoodIn wsX8_refusalOf wsX5_holdsNothing := goodIn_r _ [11, 12, 39, 40, 41, 42] rfl (by decide +kernel)
set_option maxRecDepth 20000 in
theorem gX8_refusalOf_X5_holdsNothing : GoodIn wsX8_refusalOf (wsV RX8 91 RX5 yX5_holdsNothing wsX5_holdsNothing) := goodIn_app (goodIn_of _ (by decide +kernel)) ggX8_refusalOf_X5_holdsNothing
set_option maxRecDepth 20000 in
theorem ggX8_refusalOf_X5_holdsRow : GoodIn wsX8_refusalOf wsX5_holdsRow := goodIn_r _ [16, 12, 39, 40, 41, 42] rfl (by decide +kernel)
set_option maxRecDepth 20000 in
theorem gX8_refusalOf_X5_holdsRow : GoodIn wsX8_refusalOf (wsV RX8 299 RX5 yX5_holdsRow wsX5_holdsRow) := goodIn_app (goodIn_of _ (by decide +kernel)) ggX8_refusalOf_X5_holdsRow
set_option maxRecDepth 20000 in
theorem ggX8_refusalOf_X5_holdsCells : GoodIn wsX8_refusalOf wsX5_holdsCells := goodIn_r _ [20, 21, 22, 14, 15, 10, 16, 12, 39, 40, 41, 42] rfl (by decide +kernel)
set_option maxRecDepth 20000 in
theorem gX8_refusalOf_X5_holdsCells : GoodIn wsX8_refusalOf (wsV RX8 99 RX5 yX5_holdsCells wsX5_holdsCells) := goodIn_app (goodIn_of _ (by decide +kernel)) ggX8_refusalOf_X5_holdsCells
theorem dX8_refusalOf_0 : decode cX8_refusalOf 0 = .ok (.aload_n 0, 1) := by decide +kernel
theorem dX8_refusalOf_1 : decode cX8_refusalOf 1 = .ok (.iload_n 1, 1) := by decide +kernel
theorem dX8_refusalOf_2 : decode cX8_refusalOf 2 = .ok (.invokevirtual 87, 3) := by decide +kernel
theorem dX8_refusalOf_5 : decode cX8_refusalOf 5 = .ok (.astore_n 3, 1) := by decide +kernel
theorem dX8_refusalOf_6 : decode cX8_refusalOf 6 = .ok (.aload_n 3, 1) := by decide +kernel
theorem dX8_refusalOf_7 : decode cX8_refusalOf 7 = .ok (.ifnonnull 5, 3) := by decide +kernel
theorem dX8_refusalOf_10 : decode cX8_refusalOf 10 = .ok (.iconst (-1), 1) := by decide +kernel
theorem dX8_refusalOf_11 : decode cX8_refusalOf 11 = .ok (.ireturn, 1) := by decide +kernel
theorem dX8_refusalOf_12 : decode cX8_refusalOf 12 = .ok (.aload_n 3, 1) := by decide +kernel
theorem dX8_refusalOf_13 : decode cX8_refusalOf 13 = .ok (.invokevirtual 91, 3) := by decide +kernel
theorem dX8_refusalOf_16 : decode cX8_refusalOf 16 = .ok (.ifCond .eq 6, 3) := by decide +kernel
theorem dX8_refusalOf_19 : decode cX8_refusalOf 19 = .ok (.bipush (-11), 2) := by decide +kernel
theorem dX8_refusalOf_21 : decode cX8_refusalOf 21 = .ok (.ireturn, 1) := by decide +kernel
theorem dX8_refusalOf_22 : decode cX8_refusalOf 22 = .ok (.aload_n 3, 1) := by decide +kernel
theorem dX8_refusalOf_23 : decode cX8_refusalOf 23 = .ok (.invokevirtual 299, 3) := by decide +kernel
theorem dX8_refusalOf_26 : decode cX8_refusalOf 26 = .ok (.ifCond .ne 6, 3) := by decide +kernel
theorem dX8_refusalOf_29 : decode cX8_refusalOf 29 = .ok (.bipush (-12), 2) := by decide +kernel
theorem dX8_refusalOf_31 : decode cX8_refusalOf 31 = .ok (.ireturn, 1) := by decide +kernel
theorem dX8_refusalOf_32 : decode cX8_refusalOf 32 = .ok (.aload_n 3, 1) := by decide +kernel
theorem dX8_refusalOf_33 : decode cX8_refusalOf 33 = .ok (.iload_n 2, 1) := by decide +kernel
theorem dX8_refusalOf_34 : decode cX8_refusalOf 34 = .ok (.iconst 1, 1) := by decide +kernel
theorem dX8_refusalOf_35 : decode cX8_refusalOf 35 = .ok (.invokevirtual 99, 3) := by decide +kernel
theorem dX8_refusalOf_38 : decode cX8_refusalOf 38 = .ok (.ifCond .eq 7, 3) := by decide +kernel
theorem dX8_refusalOf_41 : decode cX8_refusalOf 41 = .ok (.iconst 0, 1) := by decide +kernel
theorem dX8_refusalOf_42 : decode cX8_refusalOf 42 = .ok (.goto 5, 3) := by decide +kernel
theorem dX8_refusalOf_45 : decode cX8_refusalOf 45 = .ok (.bipush (-13), 2) := by decide +kernel
theorem dX8_refusalOf_47 : decode cX8_refusalOf 47 = .ok (.ireturn, 1) := by decide +kernel
set_option maxRecDepth 20000 in
theorem ggX8_readTape_X4_read : GoodIn wsX8_readTape wsX4_read := goodIn_r _ [9, 10, 11, 12, 13, 14, 15, 16, 17, 18, 19, 20, 21, 22, 23, 24, 25, 26, 27, 28, 8, 29, 30, 31, 32, 33, 34, 35, 36, 37, 38, 39, 40, 41, 42, 43, 44, 45, 46, 47, 48, 49, 50, 51, 52, 53, 54, 55, 56, 57, 58, 59, 60, 61, 62, 63, 64, 65, 66, 67, 68, 69, 70, 71, 72, 73, 74, 75, 76, 77, 78, 79, 80, 81, 82, 83, 84, 85, 86, 87, 88, 89, 90, 91, 92, 93, 94, 95, 96, 97, 98, 99, 100, 101, 102, 103, 104, 105, 106, 107, 108, 109, 110, 111, 112, 113, 114, 115, 116, 117, 118, 119, 120, 121, 122, 123, 124, 125, 126, 127, 128, 129, 130, 131, 132, 133, 134, 135, 136, 137, 138, 139, 140, 141, 142, 143, 144, 145, 146, 147, 148, 149, 150, 151, 168, 169, 170, 171, 172, 173, 174, 175, 176] rfl (by decide +kernel)
set_option maxRecDepth 20000 in
theorem gX8_readTape_X4_read : GoodIn wsX8_readTape (wsV RX8 336 RX4 yX4_read wsX4_read) := goodIn_app (goodIn_of _ (by decide +kernel)) ggX8_readTape_X4_read
theorem dX8_readTape_0 : decode cX8_readTape 0 = .ok (.aload_n 0, 1) := by decide +kernel
theorem dX8_readTape_1 : decode cX8_readTape 1 = .ok (.getfield 41, 3) := by decide +kernel
theorem dX8_readTape_4 : decode cX8_readTape 4 = .ok (.aload_n 0, 1) := by decide +kernel
theorem dX8_readTape_5 : decode cX8_readTape 5 = .ok (.getfield 35, 3) := by decide +kernel
theorem dX8_readTape_8 : decode cX8_readTape 8 = .ok (.aload_n 0, 1) := by decide +kernel
theorem dX8_readTape_9 : decode cX8_readTape 9 = .ok (.getfield 166, 3) := by decide +kernel
theorem dX8_readTape_12 : decode cX8_readTape 12 = .ok (.aload_n 0, 1) := by decide +kernel
theorem dX8_readTape_13 : decode cX8_readTape 13 = .ok (.getfield 60, 3) := by decide +kernel
theorem dX8_readTape_16 : decode cX8_readTape 16 = .ok (.invokevirtual 336, 3) := by decide +kernel
theorem dX8_readTape_19 : decode cX8_readTape 19 = .ok (.istore_n 1, 1) := by decide +kernel
theorem dX8_readTape_20 : decode cX8_readTape 20 = .ok (.aload_n 0, 1) := by decide +kernel
theorem dX8_readTape_21 : decode cX8_readTape 21 = .ok (.iconst 0, 1) := by decide +kernel
theorem dX8_readTape_22 : decode cX8_readTape 22 = .ok (.putfield 166, 3) := by decide +kernel
theorem dX8_readTape_25 : decode cX8_readTape 25 = .ok (.iload_n 1, 1) := by decide +kernel
theorem dX8_readTape_26 : decode cX8_readTape 26 = .ok (.ireturn, 1) := by decide +kernel
theorem dX8_lawText_0 : decode cX8_lawText 0 = .ok (.iload_n 1, 1) := by decide +kernel
theorem dX8_lawText_1 : decode cX8_lawText 1 = .ok (.ifCond .lt 25, 3) := by decide +kernel
theorem dX8_lawText_4 : decode cX8_lawText 4 = .ok (.iload_n 1, 1) := by decide +kernel
theorem dX8_lawText_5 : decode cX8_lawText 5 = .ok (.aload_n 0, 1) := by decide +kernel
theorem dX8_lawText_6 : decode cX8_lawText 6 = .ok (.getfield 169, 3) := by decide +kernel
theorem dX8_lawText_9 : decode cX8_lawText 9 = .ok (.if_icmp .ge 17, 3) := by decide +kernel
theorem dX8_lawText_12 : decode cX8_lawText 12 = .ok (.iload_n 1, 1) := by decide +kernel
theorem dX8_lawText_13 : decode cX8_lawText 13 = .ok (.iconst 4, 1) := by decide +kernel
theorem dX8_lawText_14 : decode cX8_lawText 14 = .ok (.if_icmp .ge 12, 3) := by decide +kernel
theorem dX8_lawText_17 : decode cX8_lawText 17 = .ok (.aload_n 0, 1) := by decide +kernel
theorem dX8_lawText_18 : decode cX8_lawText 18 = .ok (.getfield 47, 3) := by decide +kernel
theorem dX8_lawText_21 : decode cX8_lawText 21 = .ok (.iload_n 1, 1) := by decide +kernel
theorem dX8_lawText_22 : decode cX8_lawText 22 = .ok (.aaload, 1) := by decide +kernel
theorem dX8_lawText_23 : decode cX8_lawText 23 = .ok (.goto 4, 3) := by decide +kernel
theorem dX8_lawText_26 : decode cX8_lawText 26 = .ok (.aconst_null, 1) := by decide +kernel
theorem dX8_lawText_27 : decode cX8_lawText 27 = .ok (.areturn, 1) := by decide +kernel
set_option maxRecDepth 20000 in
theorem ggX8_prepareTrip_X3_measureTo : GoodIn wsX8_prepareTrip wsX3_measureTo := goodIn_r _ [12, 13, 14, 15, 16, 17, 18, 19, 20, 21, 11, 22, 23, 24, 25, 26, 27, 28, 29, 30, 31, 32, 33, 34, 35, 36, 37, 103, 104, 105, 106, 107, 108, 109, 110, 111, 112] rfl (by decide +kernel)
set_option maxRecDepth 20000 in
theorem gX8_prepareTrip_X3_measureTo : GoodIn wsX8_prepareTrip (wsV RX8 195 RX3 yX3_measureTo wsX3_measureTo) := goodIn_app (goodIn_of _ (by decide +kernel)) ggX8_prepareTrip_X3_measureTo
set_option maxRecDepth 20000 in
theorem ggX8_prepareTrip_X8_lawText : GoodIn wsX8_prepareTrip wsX8_lawText := goodIn_r _ [42, 43, 44, 70, 71, 72, 73, 74, 75, 76, 77, 78, 79, 80, 81, 82, 83, 84, 85] rfl (by decide +kernel)
set_option maxRecDepth 20000 in
theorem gX8_prepareTrip_X8_lawText : GoodIn wsX8_prepareTrip (wsV RX8 246 RX8 yX8_lawText wsX8_lawText) := goodIn_app (goodIn_of _ (by decide +kernel)) ggX8_prepareTrip_X8_lawText
set_option maxRecDepth 20000 in
theorem ggX8_prepareTrip_X7_begins : GoodIn wsX8_prepareTrip wsX7_begins := goodIn_r _ [49, 50, 51, 52, 53, 54, 55, 56, 57, 58, 59, 60, 48, 61, 62, 63, 64, 65, 66, 67, 68, 69, 86, 87, 88, 89, 90, 91, 92, 93, 94, 95, 96, 97, 98, 99, 100, 101, 102, 113, 114, 115] rfl (by decide +kernel)
set_option maxRecDepth 20000 in
theorem gX8_prepareTrip_X7_begins : GoodIn wsX8_prepareTrip (wsV RX8 343 RX7 yX7_begins wsX7_begins) := goodIn_app (goodIn_of _ (by decide +kernel)) ggX8_prepareTrip_X7_begins
theorem dX8_prepareTrip_0 : decode cX8_prepareTrip 0 = .ok (.aload_n 0, 1) := by decide +kernel
theorem dX8_prepareTrip_1 : decode cX8_prepareTrip 1 = .ok (.getfield 20, 3) := by decide +kernel
theorem dX8_prepareTrip_4 : decode cX8_prepareTrip 4 = .ok (.aload_n 0, 1) := by decide +kernel
theorem dX8_prepareTrip_5 : decode cX8_prepareTrip 5 = .ok (.getfield 28, 3) := by decide +kernel
theorem dX8_prepareTrip_8 : decode cX8_prepareTrip 8 = .ok (.iconst 0, 1) := by decide +kernel
theorem dX8_prepareTrip_9 : decode cX8_prepareTrip 9 = .ok (.iaload, 1) := by decide +kernel
theorem dX8_prepareTrip_10 : decode cX8_prepareTrip 10 = .ok (.aload_n 0, 1) := by decide +kernel
theorem dX8_prepareTrip_11 : decode cX8_prepareTrip 11 = .ok (.getfield 10, 3) := by decide +kernel
theorem dX8_prepareTrip_14 : decode cX8_prepareTrip 14 = .ok (.getfield 340, 3) := by decide +kernel
theorem dX8_prepareTrip_17 : decode cX8_prepareTrip 17 = .ok (.invokevirtual 195, 3) := by decide +kernel
theorem dX8_prepareTrip_20 : decode cX8_prepareTrip 20 = .ok (.aload_n 0, 1) := by decide +kernel
theorem dX8_prepareTrip_21 : decode cX8_prepareTrip 21 = .ok (.getfield 10, 3) := by decide +kernel
theorem dX8_prepareTrip_24 : decode cX8_prepareTrip 24 = .ok (.aload_n 0, 1) := by decide +kernel
theorem dX8_prepareTrip_25 : decode cX8_prepareTrip 25 = .ok (.getfield 28, 3) := by decide +kernel
theorem dX8_prepareTrip_28 : decode cX8_prepareTrip 28 = .ok (.aload_n 0, 1) := by decide +kernel
theorem dX8_prepareTrip_29 : decode cX8_prepareTrip 29 = .ok (.aload_n 0, 1) := by decide +kernel
theorem dX8_prepareTrip_30 : decode cX8_prepareTrip 30 = .ok (.getfield 51, 3) := by decide +kernel
theorem dX8_prepareTrip_33 : decode cX8_prepareTrip 33 = .ok (.invokevirtual 246, 3) := by decide +kernel
theorem dX8_prepareTrip_36 : decode cX8_prepareTrip 36 = .ok (.aload_n 0, 1) := by decide +kernel
theorem dX8_prepareTrip_37 : decode cX8_prepareTrip 37 = .ok (.getfield 176, 3) := by decide +kernel
theorem dX8_prepareTrip_40 : decode cX8_prepareTrip 40 = .ok (.ifCond .eq 10, 3) := by decide +kernel
theorem dX8_prepareTrip_43 : decode cX8_prepareTrip 43 = .ok (.aload_n 0, 1) := by decide +kernel
theorem dX8_prepareTrip_44 : decode cX8_prepareTrip 44 = .ok (.getfield 56, 3) := by decide +kernel
theorem dX8_prepareTrip_47 : decode cX8_prepareTrip 47 = .ok (.goto 4, 3) := by decide +kernel
theorem dX8_prepareTrip_50 : decode cX8_prepareTrip 50 = .ok (.aconst_null, 1) := by decide +kernel
theorem dX8_prepareTrip_51 : decode cX8_prepareTrip 51 = .ok (.invokevirtual 343, 3) := by decide +kernel
theorem dX8_prepareTrip_54 : decode cX8_prepareTrip 54 = .ok (.return_, 1) := by decide +kernel
