theorem dX1_init_0 : decode cX1_init 0 = .ok (.aload_n 0, 1) := by decide +kernel
theorem dX1_init_1 : decode cX1_init 1 = .ok (.invokespecial 3, 3) := by decide +kernel
theorem dX1_init_4 : decode cX1_init 4 = .ok (.aload_n 0, 1) := by decide +kernel
theorem dX1_init_5 : decode cX1_init 5 = .ok (.bipush 40, 2) := by decide +kernel
theorem dX1_init_7 : decode cX1_init 7 = .ok (.newarray .int, 2) := by decide +kernel
theorem dX1_init_9 : decode cX1_init 9 = .ok (.putfield 11, 3) := by decide +kernel
theorem dX1_init_12 : decode cX1_init 12 = .ok (.aload_n 0, 1) := by decide +kernel
theorem dX1_init_13 : decode cX1_init 13 = .ok (.bipush 40, 2) := by decide +kernel
theorem dX1_init_15 : decode cX1_init 15 = .ok (.newarray .int, 2) := by decide +kernel
theorem dX1_init_17 : decode cX1_init 17 = .ok (.putfield 15, 3) := by decide +kernel
theorem dX1_init_20 : decode cX1_init 20 = .ok (.aload_n 0, 1) := by decide +kernel
theorem dX1_init_21 : decode cX1_init 21 = .ok (.bipush 40, 2) := by decide +kernel
theorem dX1_init_23 : decode cX1_init 23 = .ok (.newarray .int, 2) := by decide +kernel
theorem dX1_init_25 : decode cX1_init 25 = .ok (.putfield 18, 3) := by decide +kernel
theorem dX1_init_28 : decode cX1_init 28 = .ok (.aload_n 0, 1) := by decide +kernel
theorem dX1_init_29 : decode cX1_init 29 = .ok (.bipush 40, 2) := by decide +kernel
theorem dX1_init_31 : decode cX1_init 31 = .ok (.newarray .int, 2) := by decide +kernel
theorem dX1_init_33 : decode cX1_init 33 = .ok (.putfield 21, 3) := by decide +kernel
theorem dX1_init_36 : decode cX1_init 36 = .ok (.return_, 1) := by decide +kernel
set_option maxRecDepth 20000 in
theorem ggX1_note_X1_dropOldest : GoodIn wsX1_note wsX1_dropOldest := goodIn_r _ [11, 2, 12, 13, 14, 15, 3, 4, 5, 1, 16, 17, 18, 19, 20, 21] rfl (by decide +kernel)
set_option maxRecDepth 20000 in
theorem gX1_note_X1_dropOldest : GoodIn wsX1_note (wsV RX1 28 RX1 yX1_dropOldest wsX1_dropOldest) := goodIn_app (goodIn_of _ (by decide +kernel)) ggX1_note_X1_dropOldest
theorem dX1_note_0 : decode cX1_note 0 = .ok (.aload_n 0, 1) := by decide +kernel
theorem dX1_note_1 : decode cX1_note 1 = .ok (.getfield 24, 3) := by decide +kernel
theorem dX1_note_4 : decode cX1_note 4 = .ok (.bipush 40, 2) := by decide +kernel
theorem dX1_note_6 : decode cX1_note 6 = .ok (.if_icmp .lt 7, 3) := by decide +kernel
theorem dX1_note_9 : decode cX1_note 9 = .ok (.aload_n 0, 1) := by decide +kernel
theorem dX1_note_10 : decode cX1_note 10 = .ok (.invokevirtual 28, 3) := by decide +kernel
theorem dX1_note_13 : decode cX1_note 13 = .ok (.aload_n 0, 1) := by decide +kernel
theorem dX1_note_14 : decode cX1_note 14 = .ok (.getfield 24, 3) := by decide +kernel
theorem dX1_note_17 : decode cX1_note 17 = .ok (.ifCond .lt 12, 3) := by decide +kernel
theorem dX1_note_20 : decode cX1_note 20 = .ok (.aload_n 0, 1) := by decide +kernel
theorem dX1_note_21 : decode cX1_note 21 = .ok (.getfield 24, 3) := by decide +kernel
theorem dX1_note_24 : decode cX1_note 24 = .ok (.bipush 40, 2) := by decide +kernel
theorem dX1_note_26 : decode cX1_note 26 = .ok (.if_icmp .lt 4, 3) := by decide +kernel
theorem dX1_note_29 : decode cX1_note 29 = .ok (.return_, 1) := by decide +kernel
theorem dX1_note_30 : decode cX1_note 30 = .ok (.aload_n 0, 1) := by decide +kernel
theorem dX1_note_31 : decode cX1_note 31 = .ok (.getfield 11, 3) := by decide +kernel
theorem dX1_note_34 : decode cX1_note 34 = .ok (.aload_n 0, 1) := by decide +kernel
theorem dX1_note_35 : decode cX1_note 35 = .ok (.getfield 24, 3) := by decide +kernel
theorem dX1_note_38 : decode cX1_note 38 = .ok (.iload_n 1, 1) := by decide +kernel
theorem dX1_note_39 : decode cX1_note 39 = .ok (.iastore, 1) := by decide +kernel
theorem dX1_note_40 : decode cX1_note 40 = .ok (.aload_n 0, 1) := by decide +kernel
theorem dX1_note_41 : decode cX1_note 41 = .ok (.getfield 15, 3) := by decide +kernel
theorem dX1_note_44 : decode cX1_note 44 = .ok (.aload_n 0, 1) := by decide +kernel
theorem dX1_note_45 : decode cX1_note 45 = .ok (.getfield 24, 3) := by decide +kernel
theorem dX1_note_48 : decode cX1_note 48 = .ok (.iload_n 2, 1) := by decide +kernel
theorem dX1_note_49 : decode cX1_note 49 = .ok (.iastore, 1) := by decide +kernel
theorem dX1_note_50 : decode cX1_note 50 = .ok (.aload_n 0, 1) := by decide +kernel
theorem dX1_note_51 : decode cX1_note 51 = .ok (.getfield 18, 3) := by decide +kernel
theorem dX1_note_54 : decode cX1_note 54 = .ok (.aload_n 0, 1) := by decide +kernel
theorem dX1_note_55 : decode cX1_note 55 = .ok (.getfield 24, 3) := by decide +kernel
theorem dX1_note_58 : decode cX1_note 58 = .ok (.iload_n 3, 1) := by decide +kernel
theorem dX1_note_59 : decode cX1_note 59 = .ok (.iastore, 1) := by decide +kernel
theorem dX1_note_60 : decode cX1_note 60 = .ok (.aload_n 0, 1) := by decide +kernel
theorem dX1_note_61 : decode cX1_note 61 = .ok (.getfield 21, 3) := by decide +kernel
theorem dX1_note_64 : decode cX1_note 64 = .ok (.aload_n 0, 1) := by decide +kernel
theorem dX1_note_65 : decode cX1_note 65 = .ok (.getfield 24, 3) := by decide +kernel
theorem dX1_note_68 : decode cX1_note 68 = .ok (.iload 4, 2) := by decide +kernel
theorem dX1_note_70 : decode cX1_note 70 = .ok (.iastore, 1) := by decide +kernel
theorem dX1_note_71 : decode cX1_note 71 = .ok (.aload_n 0, 1) := by decide +kernel
theorem dX1_note_72 : decode cX1_note 72 = .ok (.dup, 1) := by decide +kernel
theorem dX1_note_73 : decode cX1_note 73 = .ok (.getfield 24, 3) := by decide +kernel
theorem dX1_note_76 : decode cX1_note 76 = .ok (.iconst 1, 1) := by decide +kernel
theorem dX1_note_77 : decode cX1_note 77 = .ok (.iadd, 1) := by decide +kernel
theorem dX1_note_78 : decode cX1_note 78 = .ok (.putfield 24, 3) := by decide +kernel
theorem dX1_note_81 : decode cX1_note 81 = .ok (.aload_n 0, 1) := by decide +kernel
theorem dX1_note_82 : decode cX1_note 82 = .ok (.aload_n 0, 1) := by decide +kernel
theorem dX1_note_83 : decode cX1_note 83 = .ok (.getfield 24, 3) := by decide +kernel
theorem dX1_note_86 : decode cX1_note 86 = .ok (.putfield 31, 3) := by decide +kernel
theorem dX1_note_89 : decode cX1_note 89 = .ok (.return_, 1) := by decide +kernel
theorem dX1_dropOldest_0 : decode cX1_dropOldest 0 = .ok (.aload_n 0, 1) := by decide +kernel
theorem dX1_dropOldest_1 : decode cX1_dropOldest 1 = .ok (.getfield 11, 3) := by decide +kernel
theorem dX1_dropOldest_4 : decode cX1_dropOldest 4 = .ok (.iconst 1, 1) := by decide +kernel
theorem dX1_dropOldest_5 : decode cX1_dropOldest 5 = .ok (.aload_n 0, 1) := by decide +kernel
theorem dX1_dropOldest_6 : decode cX1_dropOldest 6 = .ok (.getfield 11, 3) := by decide +kernel
theorem dX1_dropOldest_9 : decode cX1_dropOldest 9 = .ok (.iconst 0, 1) := by decide +kernel
theorem dX1_dropOldest_10 : decode cX1_dropOldest 10 = .ok (.bipush 39, 2) := by decide +kernel
theorem dX1_dropOldest_12 : decode cX1_dropOldest 12 = .ok (.invokestatic 34, 3) := by decide +kernel
theorem dX1_dropOldest_15 : decode cX1_dropOldest 15 = .ok (.aload_n 0, 1) := by decide +kernel
theorem dX1_dropOldest_16 : decode cX1_dropOldest 16 = .ok (.getfield 15, 3) := by decide +kernel
theorem dX1_dropOldest_19 : decode cX1_dropOldest 19 = .ok (.iconst 1, 1) := by decide +kernel
theorem dX1_dropOldest_20 : decode cX1_dropOldest 20 = .ok (.aload_n 0, 1) := by decide +kernel
theorem dX1_dropOldest_21 : decode cX1_dropOldest 21 = .ok (.getfield 15, 3) := by decide +kernel
theorem dX1_dropOldest_24 : decode cX1_dropOldest 24 = .ok (.iconst 0, 1) := by decide +kernel
theorem dX1_dropOldest_25 : decode cX1_dropOldest 25 = .ok (.bipush 39, 2) := by decide +kernel
theorem dX1_dropOldest_27 : decode cX1_dropOldest 27 = .ok (.invokestatic 34, 3) := by decide +kernel
theorem dX1_dropOldest_30 : decode cX1_dropOldest 30 = .ok (.aload_n 0, 1) := by decide +kernel
theorem dX1_dropOldest_31 : decode cX1_dropOldest 31 = .ok (.getfield 18, 3) := by decide +kernel
theorem dX1_dropOldest_34 : decode cX1_dropOldest 34 = .ok (.iconst 1, 1) := by decide +kernel
theorem dX1_dropOldest_35 : decode cX1_dropOldest 35 = .ok (.aload_n 0, 1) := by decide +kernel
theorem dX1_dropOldest_36 : decode cX1_dropOldest 36 = .ok (.getfield 18, 3) := by decide +kernel
theorem dX1_dropOldest_39 : decode cX1_dropOldest 39 = .ok (.iconst 0, 1) := by decide +kernel
theorem dX1_dropOldest_40 : decode cX1_dropOldest 40 = .ok (.bipush 39, 2) := by decide +kernel
theorem dX1_dropOldest_42 : decode cX1_dropOldest 42 = .ok (.invokestatic 34, 3) := by decide +kernel
theorem dX1_dropOldest_45 : decode cX1_dropOldest 45 = .ok (.aload_n 0, 1) := by decide +kernel
theorem dX1_dropOldest_46 : decode cX1_dropOldest 46 = .ok (.getfield 21, 3) := by decide +kernel
theorem dX1_dropOldest_49 : decode cX1_dropOldest 49 = .ok (.iconst 1, 1) := by decide +kernel
theorem dX1_dropOldest_50 : decode cX1_dropOldest 50 = .ok (.aload_n 0, 1) := by decide +kernel
theorem dX1_dropOldest_51 : decode cX1_dropOldest 51 = .ok (.getfield 21, 3) := by decide +kernel
theorem dX1_dropOldest_54 : decode cX1_dropOldest 54 = .ok (.iconst 0, 1) := by decide +kernel
theorem dX1_dropOldest_55 : decode cX1_dropOldest 55 = .ok (.bipush 39, 2) := by decide +kernel
theorem dX1_dropOldest_57 : decode cX1_dropOldest 57 = .ok (.invokestatic 34, 3) := by decide +kernel
theorem dX1_dropOldest_60 : decode cX1_dropOldest 60 = .ok (.aload_n 0, 1) := by decide +kernel
theorem dX1_dropOldest_61 : decode cX1_dropOldest 61 = .ok (.bipush 39, 2) := by decide +kernel
theorem dX1_dropOldest_63 : decode cX1_dropOldest 63 = .ok (.putfield 24, 3) := by decide +kernel
theorem dX1_dropOldest_66 : decode cX1_dropOldest 66 = .ok (.return_, 1) := by decide +kernel
set_option maxRecDepth 20000 in
theorem ggX1_stepBack_X3_change : GoodIn wsX1_stepBack wsX3_change := goodIn_r _ [9, 10, 11, 12, 13, 14, 15, 8, 16, 17, 18, 19, 20, 21, 22, 23, 24, 25, 26, 33, 34, 35, 36, 37, 38, 39, 40, 41, 42] rfl (by decide +kernel)
set_option maxRecDepth 20000 in
theorem gX1_stepBack_X3_change : GoodIn wsX1_stepBack (wsV RX1 40 RX3 yX3_change wsX3_change) := goodIn_app (goodIn_of _ (by decide +kernel)) ggX1_stepBack_X3_change
theorem dX1_stepBack_0 : decode cX1_stepBack 0 = .ok (.aload_n 0, 1) := by decide +kernel
theorem dX1_stepBack_1 : decode cX1_stepBack 1 = .ok (.getfield 24, 3) := by decide +kernel
theorem dX1_stepBack_4 : decode cX1_stepBack 4 = .ok (.iconst 1, 1) := by decide +kernel
theorem dX1_stepBack_5 : decode cX1_stepBack 5 = .ok (.if_icmp .lt 12, 3) := by decide +kernel
theorem dX1_stepBack_8 : decode cX1_stepBack 8 = .ok (.aload_n 0, 1) := by decide +kernel
theorem dX1_stepBack_9 : decode cX1_stepBack 9 = .ok (.getfield 24, 3) := by decide +kernel
theorem dX1_stepBack_12 : decode cX1_stepBack 12 = .ok (.bipush 40, 2) := by decide +kernel
theorem dX1_stepBack_14 : decode cX1_stepBack 14 = .ok (.if_icmp .le 6, 3) := by decide +kernel
theorem dX1_stepBack_17 : decode cX1_stepBack 17 = .ok (.bipush (-5), 2) := by decide +kernel
theorem dX1_stepBack_19 : decode cX1_stepBack 19 = .ok (.ireturn, 1) := by decide +kernel
theorem dX1_stepBack_20 : decode cX1_stepBack 20 = .ok (.aload_n 0, 1) := by decide +kernel
theorem dX1_stepBack_21 : decode cX1_stepBack 21 = .ok (.dup, 1) := by decide +kernel
theorem dX1_stepBack_22 : decode cX1_stepBack 22 = .ok (.getfield 24, 3) := by decide +kernel
theorem dX1_stepBack_25 : decode cX1_stepBack 25 = .ok (.iconst 1, 1) := by decide +kernel
theorem dX1_stepBack_26 : decode cX1_stepBack 26 = .ok (.isub, 1) := by decide +kernel
theorem dX1_stepBack_27 : decode cX1_stepBack 27 = .ok (.putfield 24, 3) := by decide +kernel
theorem dX1_stepBack_30 : decode cX1_stepBack 30 = .ok (.aload_n 1, 1) := by decide +kernel
theorem dX1_stepBack_31 : decode cX1_stepBack 31 = .ok (.aload_n 0, 1) := by decide +kernel
theorem dX1_stepBack_32 : decode cX1_stepBack 32 = .ok (.getfield 11, 3) := by decide +kernel
theorem dX1_stepBack_35 : decode cX1_stepBack 35 = .ok (.aload_n 0, 1) := by decide +kernel
theorem dX1_stepBack_36 : decode cX1_stepBack 36 = .ok (.getfield 24, 3) := by decide +kernel
theorem dX1_stepBack_39 : decode cX1_stepBack 39 = .ok (.iaload, 1) := by decide +kernel
theorem dX1_stepBack_40 : decode cX1_stepBack 40 = .ok (.aload_n 0, 1) := by decide +kernel
theorem dX1_stepBack_41 : decode cX1_stepBack 41 = .ok (.getfield 15, 3) := by decide +kernel
theorem dX1_stepBack_44 : decode cX1_stepBack 44 = .ok (.aload_n 0, 1) := by decide +kernel
theorem dX1_stepBack_45 : decode cX1_stepBack 45 = .ok (.getfield 24, 3) := by decide +kernel
theorem dX1_stepBack_48 : decode cX1_stepBack 48 = .ok (.iaload, 1) := by decide +kernel
theorem dX1_stepBack_49 : decode cX1_stepBack 49 = .ok (.aload_n 0, 1) := by decide +kernel
theorem dX1_stepBack_50 : decode cX1_stepBack 50 = .ok (.getfield 18, 3) := by decide +kernel
theorem dX1_stepBack_53 : decode cX1_stepBack 53 = .ok (.aload_n 0, 1) := by decide +kernel
theorem dX1_stepBack_54 : decode cX1_stepBack 54 = .ok (.getfield 24, 3) := by decide +kernel
theorem dX1_stepBack_57 : decode cX1_stepBack 57 = .ok (.iaload, 1) := by decide +kernel
theorem dX1_stepBack_58 : decode cX1_stepBack 58 = .ok (.invokevirtual 40, 3) := by decide +kernel
theorem dX1_stepBack_61 : decode cX1_stepBack 61 = .ok (.aload_n 0, 1) := by decide +kernel
theorem dX1_stepBack_62 : decode cX1_stepBack 62 = .ok (.getfield 24, 3) := by decide +kernel
theorem dX1_stepBack_65 : decode cX1_stepBack 65 = .ok (.ireturn, 1) := by decide +kernel
set_option maxRecDepth 20000 in
theorem ggX1_stepOn_X3_change : GoodIn wsX1_stepOn wsX3_change := goodIn_r _ [10, 11, 12, 13, 14, 15, 16, 9, 17, 18, 19, 20, 21, 22, 23, 24, 25, 26, 27, 34, 35, 36, 37, 38, 39, 40, 41, 42, 43] rfl (by decide +kernel)
set_option maxRecDepth 20000 in
theorem gX1_stepOn_X3_change : GoodIn wsX1_stepOn (wsV RX1 40 RX3 yX3_change wsX3_change) := goodIn_app (goodIn_of _ (by decide +kernel)) ggX1_stepOn_X3_change
theorem dX1_stepOn_0 : decode cX1_stepOn 0 = .ok (.aload_n 0, 1) := by decide +kernel
theorem dX1_stepOn_1 : decode cX1_stepOn 1 = .ok (.getfield 24, 3) := by decide +kernel
theorem dX1_stepOn_4 : decode cX1_stepOn 4 = .ok (.ifCond .lt 23, 3) := by decide +kernel
theorem dX1_stepOn_7 : decode cX1_stepOn 7 = .ok (.aload_n 0, 1) := by decide +kernel
theorem dX1_stepOn_8 : decode cX1_stepOn 8 = .ok (.getfield 24, 3) := by decide +kernel
theorem dX1_stepOn_11 : decode cX1_stepOn 11 = .ok (.aload_n 0, 1) := by decide +kernel
theorem dX1_stepOn_12 : decode cX1_stepOn 12 = .ok (.getfield 31, 3) := by decide +kernel
theorem dX1_stepOn_15 : decode cX1_stepOn 15 = .ok (.if_icmp .ge 12, 3) := by decide +kernel
theorem dX1_stepOn_18 : decode cX1_stepOn 18 = .ok (.aload_n 0, 1) := by decide +kernel
theorem dX1_stepOn_19 : decode cX1_stepOn 19 = .ok (.getfield 24, 3) := by decide +kernel
theorem dX1_stepOn_22 : decode cX1_stepOn 22 = .ok (.bipush 40, 2) := by decide +kernel
theorem dX1_stepOn_24 : decode cX1_stepOn 24 = .ok (.if_icmp .lt 6, 3) := by decide +kernel
theorem dX1_stepOn_27 : decode cX1_stepOn 27 = .ok (.bipush (-5), 2) := by decide +kernel
theorem dX1_stepOn_29 : decode cX1_stepOn 29 = .ok (.ireturn, 1) := by decide +kernel
theorem dX1_stepOn_30 : decode cX1_stepOn 30 = .ok (.aload_n 1, 1) := by decide +kernel
theorem dX1_stepOn_31 : decode cX1_stepOn 31 = .ok (.aload_n 0, 1) := by decide +kernel
theorem dX1_stepOn_32 : decode cX1_stepOn 32 = .ok (.getfield 11, 3) := by decide +kernel
theorem dX1_stepOn_35 : decode cX1_stepOn 35 = .ok (.aload_n 0, 1) := by decide +kernel
theorem dX1_stepOn_36 : decode cX1_stepOn 36 = .ok (.getfield 24, 3) := by decide +kernel
theorem dX1_stepOn_39 : decode cX1_stepOn 39 = .ok (.iaload, 1) := by decide +kernel
theorem dX1_stepOn_40 : decode cX1_stepOn 40 = .ok (.aload_n 0, 1) := by decide +kernel
theorem dX1_stepOn_41 : decode cX1_stepOn 41 = .ok (.getfield 15, 3) := by decide +kernel
theorem dX1_stepOn_44 : decode cX1_stepOn 44 = .ok (.aload_n 0, 1) := by decide +kernel
theorem dX1_stepOn_45 : decode cX1_stepOn 45 = .ok (.getfield 24, 3) := by decide +kernel
theorem dX1_stepOn_48 : decode cX1_stepOn 48 = .ok (.iaload, 1) := by decide +kernel
theorem dX1_stepOn_49 : decode cX1_stepOn 49 = .ok (.aload_n 0, 1) := by decide +kernel
theorem dX1_stepOn_50 : decode cX1_stepOn 50 = .ok (.getfield 21, 3) := by decide +kernel
theorem dX1_stepOn_53 : decode cX1_stepOn 53 = .ok (.aload_n 0, 1) := by decide +kernel
theorem dX1_stepOn_54 : decode cX1_stepOn 54 = .ok (.getfield 24, 3) := by decide +kernel
theorem dX1_stepOn_57 : decode cX1_stepOn 57 = .ok (.iaload, 1) := by decide +kernel
theorem dX1_stepOn_58 : decode cX1_stepOn 58 = .ok (.invokevirtual 40, 3) := by decide +kernel
theorem dX1_stepOn_61 : decode cX1_stepOn 61 = .ok (.aload_n 0, 1) := by decide +kernel
theorem dX1_stepOn_62 : decode cX1_stepOn 62 = .ok (.dup, 1) := by decide +kernel
theorem dX1_stepOn_63 : decode cX1_stepOn 63 = .ok (.getfield 24, 3) := by decide +kernel
theorem dX1_stepOn_66 : decode cX1_stepOn 66 = .ok (.iconst 1, 1) := by decide +kernel
theorem dX1_stepOn_67 : decode cX1_stepOn 67 = .ok (.iadd, 1) := by decide +kernel
theorem dX1_stepOn_68 : decode cX1_stepOn 68 = .ok (.putfield 24, 3) := by decide +kernel
theorem dX1_stepOn_71 : decode cX1_stepOn 71 = .ok (.aload_n 0, 1) := by decide +kernel
theorem dX1_stepOn_72 : decode cX1_stepOn 72 = .ok (.getfield 31, 3) := by decide +kernel
theorem dX1_stepOn_75 : decode cX1_stepOn 75 = .ok (.aload_n 0, 1) := by decide +kernel
theorem dX1_stepOn_76 : decode cX1_stepOn 76 = .ok (.getfield 24, 3) := by decide +kernel
theorem dX1_stepOn_79 : decode cX1_stepOn 79 = .ok (.isub, 1) := by decide +kernel
theorem dX1_stepOn_80 : decode cX1_stepOn 80 = .ok (.ireturn, 1) := by decide +kernel
