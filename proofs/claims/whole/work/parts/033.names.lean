theorem dX3_init_0 : decode cX3_init 0 = .ok (.aload_n 0, 1) := by decide +kernel
theorem dX3_init_1 : decode cX3_init 1 = .ok (.invokespecial 3, 3) := by decide +kernel
theorem dX3_init_4 : decode cX3_init 4 = .ok (.aload_n 0, 1) := by decide +kernel
theorem dX3_init_5 : decode cX3_init 5 = .ok (.bipush 8, 2) := by decide +kernel
theorem dX3_init_7 : decode cX3_init 7 = .ok (.newarray .int, 2) := by decide +kernel
theorem dX3_init_9 : decode cX3_init 9 = .ok (.putfield 9, 3) := by decide +kernel
theorem dX3_init_12 : decode cX3_init 12 = .ok (.aload_n 0, 1) := by decide +kernel
theorem dX3_init_13 : decode cX3_init 13 = .ok (.bipush 8, 2) := by decide +kernel
theorem dX3_init_15 : decode cX3_init 15 = .ok (.newarray .int, 2) := by decide +kernel
theorem dX3_init_17 : decode cX3_init 17 = .ok (.putfield 15, 3) := by decide +kernel
theorem dX3_init_20 : decode cX3_init 20 = .ok (.aload_n 0, 1) := by decide +kernel
theorem dX3_init_21 : decode cX3_init 21 = .ok (.bipush 16, 2) := by decide +kernel
theorem dX3_init_23 : decode cX3_init 23 = .ok (.newarray .int, 2) := by decide +kernel
theorem dX3_init_25 : decode cX3_init 25 = .ok (.putfield 18, 3) := by decide +kernel
theorem dX3_init_28 : decode cX3_init 28 = .ok (.aload_n 0, 1) := by decide +kernel
theorem dX3_init_29 : decode cX3_init 29 = .ok (.bipush 16, 2) := by decide +kernel
theorem dX3_init_31 : decode cX3_init 31 = .ok (.newarray .int, 2) := by decide +kernel
theorem dX3_init_33 : decode cX3_init 33 = .ok (.putfield 21, 3) := by decide +kernel
theorem dX3_init_36 : decode cX3_init 36 = .ok (.aload_n 0, 1) := by decide +kernel
theorem dX3_init_37 : decode cX3_init 37 = .ok (.bipush 16, 2) := by decide +kernel
theorem dX3_init_39 : decode cX3_init 39 = .ok (.newarray .int, 2) := by decide +kernel
theorem dX3_init_41 : decode cX3_init 41 = .ok (.putfield 24, 3) := by decide +kernel
theorem dX3_init_44 : decode cX3_init 44 = .ok (.aload_n 0, 1) := by decide +kernel
theorem dX3_init_45 : decode cX3_init 45 = .ok (.bipush 16, 2) := by decide +kernel
theorem dX3_init_47 : decode cX3_init 47 = .ok (.newarray .int, 2) := by decide +kernel
theorem dX3_init_49 : decode cX3_init 49 = .ok (.putfield 27, 3) := by decide +kernel
theorem dX3_init_52 : decode cX3_init 52 = .ok (.aload_n 0, 1) := by decide +kernel
theorem dX3_init_53 : decode cX3_init 53 = .ok (.bipush 16, 2) := by decide +kernel
theorem dX3_init_55 : decode cX3_init 55 = .ok (.newarray .int, 2) := by decide +kernel
theorem dX3_init_57 : decode cX3_init 57 = .ok (.putfield 30, 3) := by decide +kernel
theorem dX3_init_60 : decode cX3_init 60 = .ok (.aload_n 0, 1) := by decide +kernel
theorem dX3_init_61 : decode cX3_init 61 = .ok (.bipush 64, 2) := by decide +kernel
theorem dX3_init_63 : decode cX3_init 63 = .ok (.newarray .int, 2) := by decide +kernel
theorem dX3_init_65 : decode cX3_init 65 = .ok (.putfield 33, 3) := by decide +kernel
theorem dX3_init_68 : decode cX3_init 68 = .ok (.return_, 1) := by decide +kernel
theorem dX3_hasPlace_0 : decode cX3_hasPlace 0 = .ok (.iload_n 1, 1) := by decide +kernel
theorem dX3_hasPlace_1 : decode cX3_hasPlace 1 = .ok (.ifCond .lt 21, 3) := by decide +kernel
theorem dX3_hasPlace_4 : decode cX3_hasPlace 4 = .ok (.iload_n 1, 1) := by decide +kernel
theorem dX3_hasPlace_5 : decode cX3_hasPlace 5 = .ok (.aload_n 0, 1) := by decide +kernel
theorem dX3_hasPlace_6 : decode cX3_hasPlace 6 = .ok (.getfield 36, 3) := by decide +kernel
theorem dX3_hasPlace_9 : decode cX3_hasPlace 9 = .ok (.if_icmp .ge 13, 3) := by decide +kernel
theorem dX3_hasPlace_12 : decode cX3_hasPlace 12 = .ok (.iload_n 1, 1) := by decide +kernel
theorem dX3_hasPlace_13 : decode cX3_hasPlace 13 = .ok (.bipush 8, 2) := by decide +kernel
theorem dX3_hasPlace_15 : decode cX3_hasPlace 15 = .ok (.if_icmp .ge 7, 3) := by decide +kernel
theorem dX3_hasPlace_18 : decode cX3_hasPlace 18 = .ok (.iconst 1, 1) := by decide +kernel
theorem dX3_hasPlace_19 : decode cX3_hasPlace 19 = .ok (.goto 4, 3) := by decide +kernel
theorem dX3_hasPlace_22 : decode cX3_hasPlace 22 = .ok (.iconst 0, 1) := by decide +kernel
theorem dX3_hasPlace_23 : decode cX3_hasPlace 23 = .ok (.ireturn, 1) := by decide +kernel
theorem dX3_hasRoad_0 : decode cX3_hasRoad 0 = .ok (.iload_n 1, 1) := by decide +kernel
theorem dX3_hasRoad_1 : decode cX3_hasRoad 1 = .ok (.ifCond .lt 21, 3) := by decide +kernel
theorem dX3_hasRoad_4 : decode cX3_hasRoad 4 = .ok (.iload_n 1, 1) := by decide +kernel
theorem dX3_hasRoad_5 : decode cX3_hasRoad 5 = .ok (.aload_n 0, 1) := by decide +kernel
theorem dX3_hasRoad_6 : decode cX3_hasRoad 6 = .ok (.getfield 40, 3) := by decide +kernel
theorem dX3_hasRoad_9 : decode cX3_hasRoad 9 = .ok (.if_icmp .ge 13, 3) := by decide +kernel
theorem dX3_hasRoad_12 : decode cX3_hasRoad 12 = .ok (.iload_n 1, 1) := by decide +kernel
theorem dX3_hasRoad_13 : decode cX3_hasRoad 13 = .ok (.bipush 16, 2) := by decide +kernel
theorem dX3_hasRoad_15 : decode cX3_hasRoad 15 = .ok (.if_icmp .ge 7, 3) := by decide +kernel
theorem dX3_hasRoad_18 : decode cX3_hasRoad 18 = .ok (.iconst 1, 1) := by decide +kernel
theorem dX3_hasRoad_19 : decode cX3_hasRoad 19 = .ok (.goto 4, 3) := by decide +kernel
theorem dX3_hasRoad_22 : decode cX3_hasRoad 22 = .ok (.iconst 0, 1) := by decide +kernel
theorem dX3_hasRoad_23 : decode cX3_hasRoad 23 = .ok (.ireturn, 1) := by decide +kernel
set_option maxRecDepth 20000 in
theorem ggX3_hasPair_X3_hasPlace : GoodIn wsX3_hasPair wsX3_hasPlace := goodIn_r _ [5, 6, 7, 8, 9, 10, 11, 12, 13, 14, 15, 16] rfl (by decide +kernel)
set_option maxRecDepth 20000 in
theorem gX3_hasPair_X3_hasPlace : GoodIn wsX3_hasPair (wsV RX3 43 RX3 yX3_hasPlace wsX3_hasPlace) := goodIn_app (goodIn_of _ (by decide +kernel)) ggX3_hasPair_X3_hasPlace
theorem dX3_hasPair_0 : decode cX3_hasPair 0 = .ok (.iload_n 1, 1) := by decide +kernel
theorem dX3_hasPair_1 : decode cX3_hasPair 1 = .ok (.ifCond .lt 29, 3) := by decide +kernel
theorem dX3_hasPair_4 : decode cX3_hasPair 4 = .ok (.aload_n 0, 1) := by decide +kernel
theorem dX3_hasPair_5 : decode cX3_hasPair 5 = .ok (.iload_n 1, 1) := by decide +kernel
theorem dX3_hasPair_6 : decode cX3_hasPair 6 = .ok (.bipush 10, 2) := by decide +kernel
theorem dX3_hasPair_8 : decode cX3_hasPair 8 = .ok (.idiv, 1) := by decide +kernel
theorem dX3_hasPair_9 : decode cX3_hasPair 9 = .ok (.invokevirtual 43, 3) := by decide +kernel
theorem dX3_hasPair_12 : decode cX3_hasPair 12 = .ok (.ifCond .eq 18, 3) := by decide +kernel
theorem dX3_hasPair_15 : decode cX3_hasPair 15 = .ok (.aload_n 0, 1) := by decide +kernel
theorem dX3_hasPair_16 : decode cX3_hasPair 16 = .ok (.iload_n 1, 1) := by decide +kernel
theorem dX3_hasPair_17 : decode cX3_hasPair 17 = .ok (.bipush 10, 2) := by decide +kernel
theorem dX3_hasPair_19 : decode cX3_hasPair 19 = .ok (.irem, 1) := by decide +kernel
theorem dX3_hasPair_20 : decode cX3_hasPair 20 = .ok (.invokevirtual 43, 3) := by decide +kernel
theorem dX3_hasPair_23 : decode cX3_hasPair 23 = .ok (.ifCond .eq 7, 3) := by decide +kernel
theorem dX3_hasPair_26 : decode cX3_hasPair 26 = .ok (.iconst 1, 1) := by decide +kernel
theorem dX3_hasPair_27 : decode cX3_hasPair 27 = .ok (.goto 4, 3) := by decide +kernel
theorem dX3_hasPair_30 : decode cX3_hasPair 30 = .ok (.iconst 0, 1) := by decide +kernel
theorem dX3_hasPair_31 : decode cX3_hasPair 31 = .ok (.ireturn, 1) := by decide +kernel
set_option maxRecDepth 20000 in
theorem ggX3_hasCar_X3_hasRoad : GoodIn wsX3_hasCar wsX3_hasRoad := goodIn_r _ [5, 6, 16, 17, 18, 19, 20, 21, 22, 23, 24, 25] rfl (by decide +kernel)
set_option maxRecDepth 20000 in
theorem gX3_hasCar_X3_hasRoad : GoodIn wsX3_hasCar (wsV RX3 47 RX3 yX3_hasRoad wsX3_hasRoad) := goodIn_app (goodIn_of _ (by decide +kernel)) ggX3_hasCar_X3_hasRoad
set_option maxRecDepth 20000 in
theorem ggX3_hasCar_X3_cars : GoodIn wsX3_hasCar wsX3_cars := goodIn_r _ [10, 11, 12, 13, 4, 14, 15, 16, 17, 18, 19, 20, 21, 22, 23, 24, 25] rfl (by decide +kernel)
set_option maxRecDepth 20000 in
theorem gX3_hasCar_X3_cars : GoodIn wsX3_hasCar (wsV RX3 50 RX3 yX3_cars wsX3_cars) := goodIn_app (goodIn_of _ (by decide +kernel)) ggX3_hasCar_X3_cars
theorem dX3_hasCar_0 : decode cX3_hasCar 0 = .ok (.aload_n 0, 1) := by decide +kernel
theorem dX3_hasCar_1 : decode cX3_hasCar 1 = .ok (.iload_n 1, 1) := by decide +kernel
theorem dX3_hasCar_2 : decode cX3_hasCar 2 = .ok (.invokevirtual 47, 3) := by decide +kernel
theorem dX3_hasCar_5 : decode cX3_hasCar 5 = .ok (.ifCond .eq 20, 3) := by decide +kernel
theorem dX3_hasCar_8 : decode cX3_hasCar 8 = .ok (.iload_n 2, 1) := by decide +kernel
theorem dX3_hasCar_9 : decode cX3_hasCar 9 = .ok (.ifCond .lt 16, 3) := by decide +kernel
theorem dX3_hasCar_12 : decode cX3_hasCar 12 = .ok (.iload_n 2, 1) := by decide +kernel
theorem dX3_hasCar_13 : decode cX3_hasCar 13 = .ok (.aload_n 0, 1) := by decide +kernel
theorem dX3_hasCar_14 : decode cX3_hasCar 14 = .ok (.iload_n 1, 1) := by decide +kernel
theorem dX3_hasCar_15 : decode cX3_hasCar 15 = .ok (.invokevirtual 50, 3) := by decide +kernel
theorem dX3_hasCar_18 : decode cX3_hasCar 18 = .ok (.if_icmp .ge 7, 3) := by decide +kernel
theorem dX3_hasCar_21 : decode cX3_hasCar 21 = .ok (.iconst 1, 1) := by decide +kernel
theorem dX3_hasCar_22 : decode cX3_hasCar 22 = .ok (.goto 4, 3) := by decide +kernel
theorem dX3_hasCar_25 : decode cX3_hasCar 25 = .ok (.iconst 0, 1) := by decide +kernel
theorem dX3_hasCar_26 : decode cX3_hasCar 26 = .ok (.ireturn, 1) := by decide +kernel
theorem dX3_roomOf_0 : decode cX3_roomOf 0 = .ok (.iload_n 1, 1) := by decide +kernel
theorem dX3_roomOf_1 : decode cX3_roomOf 1 = .ok (.ifCond .lt 21, 3) := by decide +kernel
theorem dX3_roomOf_4 : decode cX3_roomOf 4 = .ok (.iload_n 1, 1) := by decide +kernel
theorem dX3_roomOf_5 : decode cX3_roomOf 5 = .ok (.aload_n 0, 1) := by decide +kernel
theorem dX3_roomOf_6 : decode cX3_roomOf 6 = .ok (.getfield 9, 3) := by decide +kernel
theorem dX3_roomOf_9 : decode cX3_roomOf 9 = .ok (.arraylength, 1) := by decide +kernel
theorem dX3_roomOf_10 : decode cX3_roomOf 10 = .ok (.if_icmp .ge 12, 3) := by decide +kernel
theorem dX3_roomOf_13 : decode cX3_roomOf 13 = .ok (.aload_n 0, 1) := by decide +kernel
theorem dX3_roomOf_14 : decode cX3_roomOf 14 = .ok (.getfield 9, 3) := by decide +kernel
theorem dX3_roomOf_17 : decode cX3_roomOf 17 = .ok (.iload_n 1, 1) := by decide +kernel
theorem dX3_roomOf_18 : decode cX3_roomOf 18 = .ok (.iaload, 1) := by decide +kernel
theorem dX3_roomOf_19 : decode cX3_roomOf 19 = .ok (.goto 4, 3) := by decide +kernel
theorem dX3_roomOf_22 : decode cX3_roomOf 22 = .ok (.iconst 0, 1) := by decide +kernel
theorem dX3_roomOf_23 : decode cX3_roomOf 23 = .ok (.ireturn, 1) := by decide +kernel
theorem dX3_pumpsOf_0 : decode cX3_pumpsOf 0 = .ok (.iload_n 1, 1) := by decide +kernel
theorem dX3_pumpsOf_1 : decode cX3_pumpsOf 1 = .ok (.ifCond .lt 21, 3) := by decide +kernel
theorem dX3_pumpsOf_4 : decode cX3_pumpsOf 4 = .ok (.iload_n 1, 1) := by decide +kernel
theorem dX3_pumpsOf_5 : decode cX3_pumpsOf 5 = .ok (.aload_n 0, 1) := by decide +kernel
theorem dX3_pumpsOf_6 : decode cX3_pumpsOf 6 = .ok (.getfield 15, 3) := by decide +kernel
theorem dX3_pumpsOf_9 : decode cX3_pumpsOf 9 = .ok (.arraylength, 1) := by decide +kernel
theorem dX3_pumpsOf_10 : decode cX3_pumpsOf 10 = .ok (.if_icmp .ge 12, 3) := by decide +kernel
theorem dX3_pumpsOf_13 : decode cX3_pumpsOf 13 = .ok (.aload_n 0, 1) := by decide +kernel
theorem dX3_pumpsOf_14 : decode cX3_pumpsOf 14 = .ok (.getfield 15, 3) := by decide +kernel
theorem dX3_pumpsOf_17 : decode cX3_pumpsOf 17 = .ok (.iload_n 1, 1) := by decide +kernel
theorem dX3_pumpsOf_18 : decode cX3_pumpsOf 18 = .ok (.iaload, 1) := by decide +kernel
theorem dX3_pumpsOf_19 : decode cX3_pumpsOf 19 = .ok (.goto 4, 3) := by decide +kernel
theorem dX3_pumpsOf_22 : decode cX3_pumpsOf 22 = .ok (.iconst 0, 1) := by decide +kernel
theorem dX3_pumpsOf_23 : decode cX3_pumpsOf 23 = .ok (.ireturn, 1) := by decide +kernel
theorem dX3_startOf_0 : decode cX3_startOf 0 = .ok (.iload_n 1, 1) := by decide +kernel
theorem dX3_startOf_1 : decode cX3_startOf 1 = .ok (.ifCond .lt 21, 3) := by decide +kernel
theorem dX3_startOf_4 : decode cX3_startOf 4 = .ok (.iload_n 1, 1) := by decide +kernel
theorem dX3_startOf_5 : decode cX3_startOf 5 = .ok (.aload_n 0, 1) := by decide +kernel
theorem dX3_startOf_6 : decode cX3_startOf 6 = .ok (.getfield 18, 3) := by decide +kernel
theorem dX3_startOf_9 : decode cX3_startOf 9 = .ok (.arraylength, 1) := by decide +kernel
theorem dX3_startOf_10 : decode cX3_startOf 10 = .ok (.if_icmp .ge 12, 3) := by decide +kernel
theorem dX3_startOf_13 : decode cX3_startOf 13 = .ok (.aload_n 0, 1) := by decide +kernel
theorem dX3_startOf_14 : decode cX3_startOf 14 = .ok (.getfield 18, 3) := by decide +kernel
theorem dX3_startOf_17 : decode cX3_startOf 17 = .ok (.iload_n 1, 1) := by decide +kernel
theorem dX3_startOf_18 : decode cX3_startOf 18 = .ok (.iaload, 1) := by decide +kernel
theorem dX3_startOf_19 : decode cX3_startOf 19 = .ok (.goto 4, 3) := by decide +kernel
theorem dX3_startOf_22 : decode cX3_startOf 22 = .ok (.iconst (-1), 1) := by decide +kernel
theorem dX3_startOf_23 : decode cX3_startOf 23 = .ok (.ireturn, 1) := by decide +kernel
theorem dX3_endOf_0 : decode cX3_endOf 0 = .ok (.iload_n 1, 1) := by decide +kernel
theorem dX3_endOf_1 : decode cX3_endOf 1 = .ok (.ifCond .lt 21, 3) := by decide +kernel
theorem dX3_endOf_4 : decode cX3_endOf 4 = .ok (.iload_n 1, 1) := by decide +kernel
theorem dX3_endOf_5 : decode cX3_endOf 5 = .ok (.aload_n 0, 1) := by decide +kernel
theorem dX3_endOf_6 : decode cX3_endOf 6 = .ok (.getfield 21, 3) := by decide +kernel
theorem dX3_endOf_9 : decode cX3_endOf 9 = .ok (.arraylength, 1) := by decide +kernel
theorem dX3_endOf_10 : decode cX3_endOf 10 = .ok (.if_icmp .ge 12, 3) := by decide +kernel
theorem dX3_endOf_13 : decode cX3_endOf 13 = .ok (.aload_n 0, 1) := by decide +kernel
theorem dX3_endOf_14 : decode cX3_endOf 14 = .ok (.getfield 21, 3) := by decide +kernel
theorem dX3_endOf_17 : decode cX3_endOf 17 = .ok (.iload_n 1, 1) := by decide +kernel
theorem dX3_endOf_18 : decode cX3_endOf 18 = .ok (.iaload, 1) := by decide +kernel
theorem dX3_endOf_19 : decode cX3_endOf 19 = .ok (.goto 4, 3) := by decide +kernel
theorem dX3_endOf_22 : decode cX3_endOf 22 = .ok (.iconst (-1), 1) := by decide +kernel
theorem dX3_endOf_23 : decode cX3_endOf 23 = .ok (.ireturn, 1) := by decide +kernel
theorem dX3_flowOf_0 : decode cX3_flowOf 0 = .ok (.iload_n 1, 1) := by decide +kernel
theorem dX3_flowOf_1 : decode cX3_flowOf 1 = .ok (.ifCond .lt 21, 3) := by decide +kernel
theorem dX3_flowOf_4 : decode cX3_flowOf 4 = .ok (.iload_n 1, 1) := by decide +kernel
theorem dX3_flowOf_5 : decode cX3_flowOf 5 = .ok (.aload_n 0, 1) := by decide +kernel
theorem dX3_flowOf_6 : decode cX3_flowOf 6 = .ok (.getfield 24, 3) := by decide +kernel
theorem dX3_flowOf_9 : decode cX3_flowOf 9 = .ok (.arraylength, 1) := by decide +kernel
theorem dX3_flowOf_10 : decode cX3_flowOf 10 = .ok (.if_icmp .ge 12, 3) := by decide +kernel
theorem dX3_flowOf_13 : decode cX3_flowOf 13 = .ok (.aload_n 0, 1) := by decide +kernel
theorem dX3_flowOf_14 : decode cX3_flowOf 14 = .ok (.getfield 24, 3) := by decide +kernel
theorem dX3_flowOf_17 : decode cX3_flowOf 17 = .ok (.iload_n 1, 1) := by decide +kernel
theorem dX3_flowOf_18 : decode cX3_flowOf 18 = .ok (.iaload, 1) := by decide +kernel
theorem dX3_flowOf_19 : decode cX3_flowOf 19 = .ok (.goto 4, 3) := by decide +kernel
theorem dX3_flowOf_22 : decode cX3_flowOf 22 = .ok (.iconst 0, 1) := by decide +kernel
theorem dX3_flowOf_23 : decode cX3_flowOf 23 = .ok (.ireturn, 1) := by decide +kernel
theorem dX3_minutesOf_0 : decode cX3_minutesOf 0 = .ok (.iload_n 1, 1) := by decide +kernel
theorem dX3_minutesOf_1 : decode cX3_minutesOf 1 = .ok (.ifCond .lt 21, 3) := by decide +kernel
theorem dX3_minutesOf_4 : decode cX3_minutesOf 4 = .ok (.iload_n 1, 1) := by decide +kernel
theorem dX3_minutesOf_5 : decode cX3_minutesOf 5 = .ok (.aload_n 0, 1) := by decide +kernel
theorem dX3_minutesOf_6 : decode cX3_minutesOf 6 = .ok (.getfield 27, 3) := by decide +kernel
theorem dX3_minutesOf_9 : decode cX3_minutesOf 9 = .ok (.arraylength, 1) := by decide +kernel
theorem dX3_minutesOf_10 : decode cX3_minutesOf 10 = .ok (.if_icmp .ge 12, 3) := by decide +kernel
theorem dX3_minutesOf_13 : decode cX3_minutesOf 13 = .ok (.aload_n 0, 1) := by decide +kernel
theorem dX3_minutesOf_14 : decode cX3_minutesOf 14 = .ok (.getfield 27, 3) := by decide +kernel
theorem dX3_minutesOf_17 : decode cX3_minutesOf 17 = .ok (.iload_n 1, 1) := by decide +kernel
theorem dX3_minutesOf_18 : decode cX3_minutesOf 18 = .ok (.iaload, 1) := by decide +kernel
theorem dX3_minutesOf_19 : decode cX3_minutesOf 19 = .ok (.goto 4, 3) := by decide +kernel
theorem dX3_minutesOf_22 : decode cX3_minutesOf 22 = .ok (.iconst 0, 1) := by decide +kernel
theorem dX3_minutesOf_23 : decode cX3_minutesOf 23 = .ok (.ireturn, 1) := by decide +kernel
theorem dX3_dangerOf_0 : decode cX3_dangerOf 0 = .ok (.iload_n 1, 1) := by decide +kernel
theorem dX3_dangerOf_1 : decode cX3_dangerOf 1 = .ok (.ifCond .lt 21, 3) := by decide +kernel
theorem dX3_dangerOf_4 : decode cX3_dangerOf 4 = .ok (.iload_n 1, 1) := by decide +kernel
theorem dX3_dangerOf_5 : decode cX3_dangerOf 5 = .ok (.aload_n 0, 1) := by decide +kernel
theorem dX3_dangerOf_6 : decode cX3_dangerOf 6 = .ok (.getfield 30, 3) := by decide +kernel
theorem dX3_dangerOf_9 : decode cX3_dangerOf 9 = .ok (.arraylength, 1) := by decide +kernel
theorem dX3_dangerOf_10 : decode cX3_dangerOf 10 = .ok (.if_icmp .ge 12, 3) := by decide +kernel
theorem dX3_dangerOf_13 : decode cX3_dangerOf 13 = .ok (.aload_n 0, 1) := by decide +kernel
theorem dX3_dangerOf_14 : decode cX3_dangerOf 14 = .ok (.getfield 30, 3) := by decide +kernel
theorem dX3_dangerOf_17 : decode cX3_dangerOf 17 = .ok (.iload_n 1, 1) := by decide +kernel
theorem dX3_dangerOf_18 : decode cX3_dangerOf 18 = .ok (.iaload, 1) := by decide +kernel
theorem dX3_dangerOf_19 : decode cX3_dangerOf 19 = .ok (.goto 4, 3) := by decide +kernel
theorem dX3_dangerOf_22 : decode cX3_dangerOf 22 = .ok (.iconst 0, 1) := by decide +kernel
theorem dX3_dangerOf_23 : decode cX3_dangerOf 23 = .ok (.ireturn, 1) := by decide +kernel
set_option maxRecDepth 20000 in
theorem ggX3_hasDanger_X3_dangerOf : GoodIn wsX3_hasDanger wsX3_dangerOf := goodIn_r _ [6, 7, 8, 9, 10, 11, 12, 13, 14, 15, 16, 17] rfl (by decide +kernel)
set_option maxRecDepth 20000 in
theorem gX3_hasDanger_X3_dangerOf : GoodIn wsX3_hasDanger (wsV RX3 54 RX3 yX3_dangerOf wsX3_dangerOf) := goodIn_app (goodIn_of _ (by decide +kernel)) ggX3_hasDanger_X3_dangerOf
theorem dX3_hasDanger_0 : decode cX3_hasDanger 0 = .ok (.iconst 0, 1) := by decide +kernel
theorem dX3_hasDanger_1 : decode cX3_hasDanger 1 = .ok (.istore_n 2, 1) := by decide +kernel
theorem dX3_hasDanger_2 : decode cX3_hasDanger 2 = .ok (.iload_n 2, 1) := by decide +kernel
theorem dX3_hasDanger_3 : decode cX3_hasDanger 3 = .ok (.aload_n 0, 1) := by decide +kernel
theorem dX3_hasDanger_4 : decode cX3_hasDanger 4 = .ok (.getfield 40, 3) := by decide +kernel
theorem dX3_hasDanger_7 : decode cX3_hasDanger 7 = .ok (.if_icmp .ge 20, 3) := by decide +kernel
theorem dX3_hasDanger_10 : decode cX3_hasDanger 10 = .ok (.aload_n 0, 1) := by decide +kernel
theorem dX3_hasDanger_11 : decode cX3_hasDanger 11 = .ok (.iload_n 2, 1) := by decide +kernel
theorem dX3_hasDanger_12 : decode cX3_hasDanger 12 = .ok (.invokevirtual 54, 3) := by decide +kernel
theorem dX3_hasDanger_15 : decode cX3_hasDanger 15 = .ok (.iload_n 1, 1) := by decide +kernel
theorem dX3_hasDanger_16 : decode cX3_hasDanger 16 = .ok (.if_icmp .ne 5, 3) := by decide +kernel
theorem dX3_hasDanger_19 : decode cX3_hasDanger 19 = .ok (.iconst 1, 1) := by decide +kernel
theorem dX3_hasDanger_20 : decode cX3_hasDanger 20 = .ok (.ireturn, 1) := by decide +kernel
theorem dX3_hasDanger_21 : decode cX3_hasDanger 21 = .ok (.iinc 2 1, 3) := by decide +kernel
theorem dX3_hasDanger_24 : decode cX3_hasDanger 24 = .ok (.goto (-22), 3) := by decide +kernel
theorem dX3_hasDanger_27 : decode cX3_hasDanger 27 = .ok (.iconst 0, 1) := by decide +kernel
theorem dX3_hasDanger_28 : decode cX3_hasDanger 28 = .ok (.ireturn, 1) := by decide +kernel
theorem dX3_addPlace_0 : decode cX3_addPlace 0 = .ok (.aload_n 0, 1) := by decide +kernel
theorem dX3_addPlace_1 : decode cX3_addPlace 1 = .ok (.getfield 36, 3) := by decide +kernel
theorem dX3_addPlace_4 : decode cX3_addPlace 4 = .ok (.ifCond .lt 12, 3) := by decide +kernel
theorem dX3_addPlace_7 : decode cX3_addPlace 7 = .ok (.aload_n 0, 1) := by decide +kernel
theorem dX3_addPlace_8 : decode cX3_addPlace 8 = .ok (.getfield 36, 3) := by decide +kernel
theorem dX3_addPlace_11 : decode cX3_addPlace 11 = .ok (.bipush 8, 2) := by decide +kernel
theorem dX3_addPlace_13 : decode cX3_addPlace 13 = .ok (.if_icmp .lt 6, 3) := by decide +kernel
theorem dX3_addPlace_16 : decode cX3_addPlace 16 = .ok (.bipush (-3), 2) := by decide +kernel
theorem dX3_addPlace_18 : decode cX3_addPlace 18 = .ok (.ireturn, 1) := by decide +kernel
theorem dX3_addPlace_19 : decode cX3_addPlace 19 = .ok (.aload_n 0, 1) := by decide +kernel
theorem dX3_addPlace_20 : decode cX3_addPlace 20 = .ok (.getfield 9, 3) := by decide +kernel
theorem dX3_addPlace_23 : decode cX3_addPlace 23 = .ok (.aload_n 0, 1) := by decide +kernel
theorem dX3_addPlace_24 : decode cX3_addPlace 24 = .ok (.getfield 36, 3) := by decide +kernel
theorem dX3_addPlace_27 : decode cX3_addPlace 27 = .ok (.iload_n 1, 1) := by decide +kernel
theorem dX3_addPlace_28 : decode cX3_addPlace 28 = .ok (.iastore, 1) := by decide +kernel
theorem dX3_addPlace_29 : decode cX3_addPlace 29 = .ok (.aload_n 0, 1) := by decide +kernel
theorem dX3_addPlace_30 : decode cX3_addPlace 30 = .ok (.getfield 15, 3) := by decide +kernel
theorem dX3_addPlace_33 : decode cX3_addPlace 33 = .ok (.aload_n 0, 1) := by decide +kernel
theorem dX3_addPlace_34 : decode cX3_addPlace 34 = .ok (.getfield 36, 3) := by decide +kernel
theorem dX3_addPlace_37 : decode cX3_addPlace 37 = .ok (.iload_n 2, 1) := by decide +kernel
theorem dX3_addPlace_38 : decode cX3_addPlace 38 = .ok (.iastore, 1) := by decide +kernel
theorem dX3_addPlace_39 : decode cX3_addPlace 39 = .ok (.aload_n 0, 1) := by decide +kernel
theorem dX3_addPlace_40 : decode cX3_addPlace 40 = .ok (.dup, 1) := by decide +kernel
theorem dX3_addPlace_41 : decode cX3_addPlace 41 = .ok (.getfield 36, 3) := by decide +kernel
theorem dX3_addPlace_44 : decode cX3_addPlace 44 = .ok (.iconst 1, 1) := by decide +kernel
theorem dX3_addPlace_45 : decode cX3_addPlace 45 = .ok (.iadd, 1) := by decide +kernel
theorem dX3_addPlace_46 : decode cX3_addPlace 46 = .ok (.putfield 36, 3) := by decide +kernel
theorem dX3_addPlace_49 : decode cX3_addPlace 49 = .ok (.aload_n 0, 1) := by decide +kernel
theorem dX3_addPlace_50 : decode cX3_addPlace 50 = .ok (.getfield 36, 3) := by decide +kernel
theorem dX3_addPlace_53 : decode cX3_addPlace 53 = .ok (.iconst 1, 1) := by decide +kernel
theorem dX3_addPlace_54 : decode cX3_addPlace 54 = .ok (.isub, 1) := by decide +kernel
theorem dX3_addPlace_55 : decode cX3_addPlace 55 = .ok (.ireturn, 1) := by decide +kernel
set_option maxRecDepth 20000 in
theorem ggX3_addRoad_X3_hasPair : GoodIn wsX3_addRoad wsX3_hasPair := goodIn_r _ [11, 12, 13, 14, 10, 15, 16, 17, 18, 19, 20, 21, 22, 23, 24, 25, 26] rfl (by decide +kernel)
set_option maxRecDepth 20000 in
theorem gX3_addRoad_X3_hasPair : GoodIn wsX3_addRoad (wsV RX3 57 RX3 yX3_hasPair wsX3_hasPair) := goodIn_app (goodIn_of _ (by decide +kernel)) ggX3_addRoad_X3_hasPair
theorem dX3_addRoad_0 : decode cX3_addRoad 0 = .ok (.aload_n 0, 1) := by decide +kernel
theorem dX3_addRoad_1 : decode cX3_addRoad 1 = .ok (.iload_n 1, 1) := by decide +kernel
theorem dX3_addRoad_2 : decode cX3_addRoad 2 = .ok (.invokevirtual 57, 3) := by decide +kernel
theorem dX3_addRoad_5 : decode cX3_addRoad 5 = .ok (.ifCond .eq 49, 3) := by decide +kernel
theorem dX3_addRoad_8 : decode cX3_addRoad 8 = .ok (.iload_n 1, 1) := by decide +kernel
theorem dX3_addRoad_9 : decode cX3_addRoad 9 = .ok (.bipush 10, 2) := by decide +kernel
theorem dX3_addRoad_11 : decode cX3_addRoad 11 = .ok (.idiv, 1) := by decide +kernel
theorem dX3_addRoad_12 : decode cX3_addRoad 12 = .ok (.iload_n 1, 1) := by decide +kernel
theorem dX3_addRoad_13 : decode cX3_addRoad 13 = .ok (.bipush 10, 2) := by decide +kernel
theorem dX3_addRoad_15 : decode cX3_addRoad 15 = .ok (.irem, 1) := by decide +kernel
theorem dX3_addRoad_16 : decode cX3_addRoad 16 = .ok (.if_icmp .eq 38, 3) := by decide +kernel
theorem dX3_addRoad_19 : decode cX3_addRoad 19 = .ok (.iload_n 2, 1) := by decide +kernel
theorem dX3_addRoad_20 : decode cX3_addRoad 20 = .ok (.iconst 1, 1) := by decide +kernel
theorem dX3_addRoad_21 : decode cX3_addRoad 21 = .ok (.if_icmp .lt 33, 3) := by decide +kernel
theorem dX3_addRoad_24 : decode cX3_addRoad 24 = .ok (.iload_n 2, 1) := by decide +kernel
theorem dX3_addRoad_25 : decode cX3_addRoad 25 = .ok (.bipush 60, 2) := by decide +kernel
theorem dX3_addRoad_27 : decode cX3_addRoad 27 = .ok (.if_icmp .gt 27, 3) := by decide +kernel
theorem dX3_addRoad_30 : decode cX3_addRoad 30 = .ok (.iload_n 3, 1) := by decide +kernel
theorem dX3_addRoad_31 : decode cX3_addRoad 31 = .ok (.iconst 1, 1) := by decide +kernel
theorem dX3_addRoad_32 : decode cX3_addRoad 32 = .ok (.if_icmp .lt 22, 3) := by decide +kernel
theorem dX3_addRoad_35 : decode cX3_addRoad 35 = .ok (.iload_n 3, 1) := by decide +kernel
theorem dX3_addRoad_36 : decode cX3_addRoad 36 = .ok (.sipush 300, 3) := by decide +kernel
theorem dX3_addRoad_39 : decode cX3_addRoad 39 = .ok (.if_icmp .gt 15, 3) := by decide +kernel
theorem dX3_addRoad_42 : decode cX3_addRoad 42 = .ok (.iload 4, 2) := by decide +kernel
theorem dX3_addRoad_44 : decode cX3_addRoad 44 = .ok (.ifCond .lt 10, 3) := by decide +kernel
theorem dX3_addRoad_47 : decode cX3_addRoad 47 = .ok (.iload 4, 2) := by decide +kernel
theorem dX3_addRoad_49 : decode cX3_addRoad 49 = .ok (.bipush 99, 2) := by decide +kernel
theorem dX3_addRoad_51 : decode cX3_addRoad 51 = .ok (.if_icmp .le 5, 3) := by decide +kernel
theorem dX3_addRoad_54 : decode cX3_addRoad 54 = .ok (.iconst (-1), 1) := by decide +kernel
theorem dX3_addRoad_55 : decode cX3_addRoad 55 = .ok (.ireturn, 1) := by decide +kernel
theorem dX3_addRoad_56 : decode cX3_addRoad 56 = .ok (.aload_n 0, 1) := by decide +kernel
theorem dX3_addRoad_57 : decode cX3_addRoad 57 = .ok (.getfield 40, 3) := by decide +kernel
theorem dX3_addRoad_60 : decode cX3_addRoad 60 = .ok (.ifCond .lt 12, 3) := by decide +kernel
theorem dX3_addRoad_63 : decode cX3_addRoad 63 = .ok (.aload_n 0, 1) := by decide +kernel
theorem dX3_addRoad_64 : decode cX3_addRoad 64 = .ok (.getfield 40, 3) := by decide +kernel
theorem dX3_addRoad_67 : decode cX3_addRoad 67 = .ok (.bipush 16, 2) := by decide +kernel
theorem dX3_addRoad_69 : decode cX3_addRoad 69 = .ok (.if_icmp .lt 6, 3) := by decide +kernel
theorem dX3_addRoad_72 : decode cX3_addRoad 72 = .ok (.bipush (-3), 2) := by decide +kernel
theorem dX3_addRoad_74 : decode cX3_addRoad 74 = .ok (.ireturn, 1) := by decide +kernel
theorem dX3_addRoad_75 : decode cX3_addRoad 75 = .ok (.aload_n 0, 1) := by decide +kernel
theorem dX3_addRoad_76 : decode cX3_addRoad 76 = .ok (.getfield 18, 3) := by decide +kernel
theorem dX3_addRoad_79 : decode cX3_addRoad 79 = .ok (.aload_n 0, 1) := by decide +kernel
theorem dX3_addRoad_80 : decode cX3_addRoad 80 = .ok (.getfield 40, 3) := by decide +kernel
theorem dX3_addRoad_83 : decode cX3_addRoad 83 = .ok (.iload_n 1, 1) := by decide +kernel
theorem dX3_addRoad_84 : decode cX3_addRoad 84 = .ok (.bipush 10, 2) := by decide +kernel
theorem dX3_addRoad_86 : decode cX3_addRoad 86 = .ok (.idiv, 1) := by decide +kernel
theorem dX3_addRoad_87 : decode cX3_addRoad 87 = .ok (.iastore, 1) := by decide +kernel
theorem dX3_addRoad_88 : decode cX3_addRoad 88 = .ok (.aload_n 0, 1) := by decide +kernel
theorem dX3_addRoad_89 : decode cX3_addRoad 89 = .ok (.getfield 21, 3) := by decide +kernel
theorem dX3_addRoad_92 : decode cX3_addRoad 92 = .ok (.aload_n 0, 1) := by decide +kernel
theorem dX3_addRoad_93 : decode cX3_addRoad 93 = .ok (.getfield 40, 3) := by decide +kernel
theorem dX3_addRoad_96 : decode cX3_addRoad 96 = .ok (.iload_n 1, 1) := by decide +kernel
theorem dX3_addRoad_97 : decode cX3_addRoad 97 = .ok (.bipush 10, 2) := by decide +kernel
theorem dX3_addRoad_99 : decode cX3_addRoad 99 = .ok (.irem, 1) := by decide +kernel
theorem dX3_addRoad_100 : decode cX3_addRoad 100 = .ok (.iastore, 1) := by decide +kernel
theorem dX3_addRoad_101 : decode cX3_addRoad 101 = .ok (.aload_n 0, 1) := by decide +kernel
theorem dX3_addRoad_102 : decode cX3_addRoad 102 = .ok (.getfield 24, 3) := by decide +kernel
theorem dX3_addRoad_105 : decode cX3_addRoad 105 = .ok (.aload_n 0, 1) := by decide +kernel
theorem dX3_addRoad_106 : decode cX3_addRoad 106 = .ok (.getfield 40, 3) := by decide +kernel
theorem dX3_addRoad_109 : decode cX3_addRoad 109 = .ok (.iload_n 2, 1) := by decide +kernel
theorem dX3_addRoad_110 : decode cX3_addRoad 110 = .ok (.iastore, 1) := by decide +kernel
theorem dX3_addRoad_111 : decode cX3_addRoad 111 = .ok (.aload_n 0, 1) := by decide +kernel
theorem dX3_addRoad_112 : decode cX3_addRoad 112 = .ok (.getfield 27, 3) := by decide +kernel
theorem dX3_addRoad_115 : decode cX3_addRoad 115 = .ok (.aload_n 0, 1) := by decide +kernel
theorem dX3_addRoad_116 : decode cX3_addRoad 116 = .ok (.getfield 40, 3) := by decide +kernel
theorem dX3_addRoad_119 : decode cX3_addRoad 119 = .ok (.iload_n 3, 1) := by decide +kernel
theorem dX3_addRoad_120 : decode cX3_addRoad 120 = .ok (.iastore, 1) := by decide +kernel
theorem dX3_addRoad_121 : decode cX3_addRoad 121 = .ok (.aload_n 0, 1) := by decide +kernel
theorem dX3_addRoad_122 : decode cX3_addRoad 122 = .ok (.getfield 30, 3) := by decide +kernel
theorem dX3_addRoad_125 : decode cX3_addRoad 125 = .ok (.aload_n 0, 1) := by decide +kernel
theorem dX3_addRoad_126 : decode cX3_addRoad 126 = .ok (.getfield 40, 3) := by decide +kernel
theorem dX3_addRoad_129 : decode cX3_addRoad 129 = .ok (.iload 4, 2) := by decide +kernel
theorem dX3_addRoad_131 : decode cX3_addRoad 131 = .ok (.iastore, 1) := by decide +kernel
theorem dX3_addRoad_132 : decode cX3_addRoad 132 = .ok (.aload_n 0, 1) := by decide +kernel
theorem dX3_addRoad_133 : decode cX3_addRoad 133 = .ok (.dup, 1) := by decide +kernel
theorem dX3_addRoad_134 : decode cX3_addRoad 134 = .ok (.getfield 40, 3) := by decide +kernel
theorem dX3_addRoad_137 : decode cX3_addRoad 137 = .ok (.iconst 1, 1) := by decide +kernel
theorem dX3_addRoad_138 : decode cX3_addRoad 138 = .ok (.iadd, 1) := by decide +kernel
theorem dX3_addRoad_139 : decode cX3_addRoad 139 = .ok (.putfield 40, 3) := by decide +kernel
theorem dX3_addRoad_142 : decode cX3_addRoad 142 = .ok (.aload_n 0, 1) := by decide +kernel
theorem dX3_addRoad_143 : decode cX3_addRoad 143 = .ok (.getfield 40, 3) := by decide +kernel
theorem dX3_addRoad_146 : decode cX3_addRoad 146 = .ok (.iconst 1, 1) := by decide +kernel
theorem dX3_addRoad_147 : decode cX3_addRoad 147 = .ok (.isub, 1) := by decide +kernel
theorem dX3_addRoad_148 : decode cX3_addRoad 148 = .ok (.ireturn, 1) := by decide +kernel
set_option maxRecDepth 20000 in
theorem ggX3_onFoot_X3_hasPlace : GoodIn wsX3_onFoot wsX3_hasPlace := goodIn_r _ [6, 7, 8, 9, 10, 11, 12, 13, 14, 15, 16, 17] rfl (by decide +kernel)
set_option maxRecDepth 20000 in
theorem gX3_onFoot_X3_hasPlace : GoodIn wsX3_onFoot (wsV RX3 43 RX3 yX3_hasPlace wsX3_hasPlace) := goodIn_app (goodIn_of _ (by decide +kernel)) ggX3_onFoot_X3_hasPlace
theorem dX3_onFoot_0 : decode cX3_onFoot 0 = .ok (.aload_n 0, 1) := by decide +kernel
theorem dX3_onFoot_1 : decode cX3_onFoot 1 = .ok (.iload_n 1, 1) := by decide +kernel
theorem dX3_onFoot_2 : decode cX3_onFoot 2 = .ok (.invokevirtual 43, 3) := by decide +kernel
theorem dX3_onFoot_5 : decode cX3_onFoot 5 = .ok (.ifCond .eq 25, 3) := by decide +kernel
theorem dX3_onFoot_8 : decode cX3_onFoot 8 = .ok (.aload_n 0, 1) := by decide +kernel
theorem dX3_onFoot_9 : decode cX3_onFoot 9 = .ok (.iload_n 2, 1) := by decide +kernel
theorem dX3_onFoot_10 : decode cX3_onFoot 10 = .ok (.invokevirtual 43, 3) := by decide +kernel
theorem dX3_onFoot_13 : decode cX3_onFoot 13 = .ok (.ifCond .eq 17, 3) := by decide +kernel
theorem dX3_onFoot_16 : decode cX3_onFoot 16 = .ok (.aload_n 0, 1) := by decide +kernel
theorem dX3_onFoot_17 : decode cX3_onFoot 17 = .ok (.getfield 33, 3) := by decide +kernel
theorem dX3_onFoot_20 : decode cX3_onFoot 20 = .ok (.iload_n 1, 1) := by decide +kernel
theorem dX3_onFoot_21 : decode cX3_onFoot 21 = .ok (.bipush 8, 2) := by decide +kernel
theorem dX3_onFoot_23 : decode cX3_onFoot 23 = .ok (.imul, 1) := by decide +kernel
theorem dX3_onFoot_24 : decode cX3_onFoot 24 = .ok (.iload_n 2, 1) := by decide +kernel
theorem dX3_onFoot_25 : decode cX3_onFoot 25 = .ok (.iadd, 1) := by decide +kernel
theorem dX3_onFoot_26 : decode cX3_onFoot 26 = .ok (.iaload, 1) := by decide +kernel
theorem dX3_onFoot_27 : decode cX3_onFoot 27 = .ok (.goto 4, 3) := by decide +kernel
theorem dX3_onFoot_30 : decode cX3_onFoot 30 = .ok (.iconst 0, 1) := by decide +kernel
theorem dX3_onFoot_31 : decode cX3_onFoot 31 = .ok (.ireturn, 1) := by decide +kernel
set_option maxRecDepth 20000 in
theorem ggX3_setOnFoot_X3_hasPlace : GoodIn wsX3_setOnFoot wsX3_hasPlace := goodIn_r _ [6, 7, 8, 9, 10, 11, 12, 13, 14, 15, 16, 17] rfl (by decide +kernel)
set_option maxRecDepth 20000 in
theorem gX3_setOnFoot_X3_hasPlace : GoodIn wsX3_setOnFoot (wsV RX3 43 RX3 yX3_hasPlace wsX3_hasPlace) := goodIn_app (goodIn_of _ (by decide +kernel)) ggX3_setOnFoot_X3_hasPlace
theorem dX3_setOnFoot_0 : decode cX3_setOnFoot 0 = .ok (.aload_n 0, 1) := by decide +kernel
theorem dX3_setOnFoot_1 : decode cX3_setOnFoot 1 = .ok (.iload_n 1, 1) := by decide +kernel
theorem dX3_setOnFoot_2 : decode cX3_setOnFoot 2 = .ok (.invokevirtual 43, 3) := by decide +kernel
theorem dX3_setOnFoot_5 : decode cX3_setOnFoot 5 = .ok (.ifCond .eq 23, 3) := by decide +kernel
theorem dX3_setOnFoot_8 : decode cX3_setOnFoot 8 = .ok (.aload_n 0, 1) := by decide +kernel
theorem dX3_setOnFoot_9 : decode cX3_setOnFoot 9 = .ok (.iload_n 2, 1) := by decide +kernel
theorem dX3_setOnFoot_10 : decode cX3_setOnFoot 10 = .ok (.invokevirtual 43, 3) := by decide +kernel
theorem dX3_setOnFoot_13 : decode cX3_setOnFoot 13 = .ok (.ifCond .eq 15, 3) := by decide +kernel
theorem dX3_setOnFoot_16 : decode cX3_setOnFoot 16 = .ok (.aload_n 0, 1) := by decide +kernel
theorem dX3_setOnFoot_17 : decode cX3_setOnFoot 17 = .ok (.getfield 33, 3) := by decide +kernel
theorem dX3_setOnFoot_20 : decode cX3_setOnFoot 20 = .ok (.iload_n 1, 1) := by decide +kernel
theorem dX3_setOnFoot_21 : decode cX3_setOnFoot 21 = .ok (.bipush 8, 2) := by decide +kernel
theorem dX3_setOnFoot_23 : decode cX3_setOnFoot 23 = .ok (.imul, 1) := by decide +kernel
theorem dX3_setOnFoot_24 : decode cX3_setOnFoot 24 = .ok (.iload_n 2, 1) := by decide +kernel
theorem dX3_setOnFoot_25 : decode cX3_setOnFoot 25 = .ok (.iadd, 1) := by decide +kernel
theorem dX3_setOnFoot_26 : decode cX3_setOnFoot 26 = .ok (.iload_n 3, 1) := by decide +kernel
theorem dX3_setOnFoot_27 : decode cX3_setOnFoot 27 = .ok (.iastore, 1) := by decide +kernel
theorem dX3_setOnFoot_28 : decode cX3_setOnFoot 28 = .ok (.return_, 1) := by decide +kernel
set_option maxRecDepth 20000 in
theorem ggX3_mayBecome_X3_hasPlace : GoodIn wsX3_mayBecome wsX3_hasPlace := goodIn_r _ [5, 6, 12, 13, 14, 15, 16, 17, 18, 19, 20, 21] rfl (by decide +kernel)
set_option maxRecDepth 20000 in
theorem gX3_mayBecome_X3_hasPlace : GoodIn wsX3_mayBecome (wsV RX3 43 RX3 yX3_hasPlace wsX3_hasPlace) := goodIn_app (goodIn_of _ (by decide +kernel)) ggX3_mayBecome_X3_hasPlace
set_option maxRecDepth 20000 in
theorem ggX3_mayBecome_X3_hasRoad : GoodIn wsX3_mayBecome wsX3_hasRoad := goodIn_r _ [10, 11, 12, 13, 14, 15, 16, 17, 18, 19, 20, 21] rfl (by decide +kernel)
set_option maxRecDepth 20000 in
theorem gX3_mayBecome_X3_hasRoad : GoodIn wsX3_mayBecome (wsV RX3 47 RX3 yX3_hasRoad wsX3_hasRoad) := goodIn_app (goodIn_of _ (by decide +kernel)) ggX3_mayBecome_X3_hasRoad
theorem dX3_mayBecome_0 : decode cX3_mayBecome 0 = .ok (.iload_n 2, 1) := by decide +kernel
theorem dX3_mayBecome_1 : decode cX3_mayBecome 1 = .ok (.tableswitch 100 0 2 #[27, 51, 76], 27) := by decide +kernel
theorem dX3_mayBecome_28 : decode cX3_mayBecome 28 = .ok (.aload_n 0, 1) := by decide +kernel
theorem dX3_mayBecome_29 : decode cX3_mayBecome 29 = .ok (.iload_n 1, 1) := by decide +kernel
theorem dX3_mayBecome_30 : decode cX3_mayBecome 30 = .ok (.invokevirtual 43, 3) := by decide +kernel
theorem dX3_mayBecome_33 : decode cX3_mayBecome 33 = .ok (.ifCond .eq 17, 3) := by decide +kernel
theorem dX3_mayBecome_36 : decode cX3_mayBecome 36 = .ok (.iload_n 3, 1) := by decide +kernel
theorem dX3_mayBecome_37 : decode cX3_mayBecome 37 = .ok (.ifCond .lt 13, 3) := by decide +kernel
theorem dX3_mayBecome_40 : decode cX3_mayBecome 40 = .ok (.iload_n 3, 1) := by decide +kernel
theorem dX3_mayBecome_41 : decode cX3_mayBecome 41 = .ok (.bipush 9, 2) := by decide +kernel
theorem dX3_mayBecome_43 : decode cX3_mayBecome 43 = .ok (.if_icmp .gt 7, 3) := by decide +kernel
theorem dX3_mayBecome_46 : decode cX3_mayBecome 46 = .ok (.iconst 1, 1) := by decide +kernel
theorem dX3_mayBecome_47 : decode cX3_mayBecome 47 = .ok (.goto 4, 3) := by decide +kernel
theorem dX3_mayBecome_50 : decode cX3_mayBecome 50 = .ok (.iconst 0, 1) := by decide +kernel
theorem dX3_mayBecome_51 : decode cX3_mayBecome 51 = .ok (.ireturn, 1) := by decide +kernel
theorem dX3_mayBecome_52 : decode cX3_mayBecome 52 = .ok (.aload_n 0, 1) := by decide +kernel
theorem dX3_mayBecome_53 : decode cX3_mayBecome 53 = .ok (.iload_n 1, 1) := by decide +kernel
theorem dX3_mayBecome_54 : decode cX3_mayBecome 54 = .ok (.invokevirtual 47, 3) := by decide +kernel
theorem dX3_mayBecome_57 : decode cX3_mayBecome 57 = .ok (.ifCond .eq 18, 3) := by decide +kernel
theorem dX3_mayBecome_60 : decode cX3_mayBecome 60 = .ok (.iload_n 3, 1) := by decide +kernel
theorem dX3_mayBecome_61 : decode cX3_mayBecome 61 = .ok (.iconst 1, 1) := by decide +kernel
theorem dX3_mayBecome_62 : decode cX3_mayBecome 62 = .ok (.if_icmp .lt 13, 3) := by decide +kernel
theorem dX3_mayBecome_65 : decode cX3_mayBecome 65 = .ok (.iload_n 3, 1) := by decide +kernel
theorem dX3_mayBecome_66 : decode cX3_mayBecome 66 = .ok (.bipush 60, 2) := by decide +kernel
theorem dX3_mayBecome_68 : decode cX3_mayBecome 68 = .ok (.if_icmp .gt 7, 3) := by decide +kernel
theorem dX3_mayBecome_71 : decode cX3_mayBecome 71 = .ok (.iconst 1, 1) := by decide +kernel
theorem dX3_mayBecome_72 : decode cX3_mayBecome 72 = .ok (.goto 4, 3) := by decide +kernel
theorem dX3_mayBecome_75 : decode cX3_mayBecome 75 = .ok (.iconst 0, 1) := by decide +kernel
theorem dX3_mayBecome_76 : decode cX3_mayBecome 76 = .ok (.ireturn, 1) := by decide +kernel
theorem dX3_mayBecome_77 : decode cX3_mayBecome 77 = .ok (.aload_n 0, 1) := by decide +kernel
theorem dX3_mayBecome_78 : decode cX3_mayBecome 78 = .ok (.iload_n 1, 1) := by decide +kernel
theorem dX3_mayBecome_79 : decode cX3_mayBecome 79 = .ok (.invokevirtual 47, 3) := by decide +kernel
theorem dX3_mayBecome_82 : decode cX3_mayBecome 82 = .ok (.ifCond .eq 17, 3) := by decide +kernel
theorem dX3_mayBecome_85 : decode cX3_mayBecome 85 = .ok (.iload_n 3, 1) := by decide +kernel
theorem dX3_mayBecome_86 : decode cX3_mayBecome 86 = .ok (.ifCond .lt 13, 3) := by decide +kernel
theorem dX3_mayBecome_89 : decode cX3_mayBecome 89 = .ok (.iload_n 3, 1) := by decide +kernel
theorem dX3_mayBecome_90 : decode cX3_mayBecome 90 = .ok (.bipush 99, 2) := by decide +kernel
theorem dX3_mayBecome_92 : decode cX3_mayBecome 92 = .ok (.if_icmp .gt 7, 3) := by decide +kernel
theorem dX3_mayBecome_95 : decode cX3_mayBecome 95 = .ok (.iconst 1, 1) := by decide +kernel
theorem dX3_mayBecome_96 : decode cX3_mayBecome 96 = .ok (.goto 4, 3) := by decide +kernel
theorem dX3_mayBecome_99 : decode cX3_mayBecome 99 = .ok (.iconst 0, 1) := by decide +kernel
theorem dX3_mayBecome_100 : decode cX3_mayBecome 100 = .ok (.ireturn, 1) := by decide +kernel
theorem dX3_mayBecome_101 : decode cX3_mayBecome 101 = .ok (.iconst 0, 1) := by decide +kernel
theorem dX3_mayBecome_102 : decode cX3_mayBecome 102 = .ok (.ireturn, 1) := by decide +kernel
set_option maxRecDepth 20000 in
theorem ggX3_valueOf_X3_roomOf : GoodIn wsX3_valueOf wsX3_roomOf := goodIn_r _ [5, 6, 17, 18, 19, 20, 21, 22, 23, 24, 25, 26] rfl (by decide +kernel)
set_option maxRecDepth 20000 in
theorem gX3_valueOf_X3_roomOf : GoodIn wsX3_valueOf (wsV RX3 60 RX3 yX3_roomOf wsX3_roomOf) := goodIn_app (goodIn_of _ (by decide +kernel)) ggX3_valueOf_X3_roomOf
set_option maxRecDepth 20000 in
theorem ggX3_valueOf_X3_flowOf : GoodIn wsX3_valueOf wsX3_flowOf := goodIn_r _ [10, 11, 17, 18, 19, 20, 21, 22, 23, 24, 25, 26] rfl (by decide +kernel)
set_option maxRecDepth 20000 in
theorem gX3_valueOf_X3_flowOf : GoodIn wsX3_valueOf (wsV RX3 63 RX3 yX3_flowOf wsX3_flowOf) := goodIn_app (goodIn_of _ (by decide +kernel)) ggX3_valueOf_X3_flowOf
set_option maxRecDepth 20000 in
theorem ggX3_valueOf_X3_dangerOf : GoodIn wsX3_valueOf wsX3_dangerOf := goodIn_r _ [15, 16, 17, 18, 19, 20, 21, 22, 23, 24, 25, 26] rfl (by decide +kernel)
set_option maxRecDepth 20000 in
theorem gX3_valueOf_X3_dangerOf : GoodIn wsX3_valueOf (wsV RX3 54 RX3 yX3_dangerOf wsX3_dangerOf) := goodIn_app (goodIn_of _ (by decide +kernel)) ggX3_valueOf_X3_dangerOf
theorem dX3_valueOf_0 : decode cX3_valueOf 0 = .ok (.iload_n 2, 1) := by decide +kernel
theorem dX3_valueOf_1 : decode cX3_valueOf 1 = .ok (.ifCond .ne 9, 3) := by decide +kernel
theorem dX3_valueOf_4 : decode cX3_valueOf 4 = .ok (.aload_n 0, 1) := by decide +kernel
theorem dX3_valueOf_5 : decode cX3_valueOf 5 = .ok (.iload_n 1, 1) := by decide +kernel
theorem dX3_valueOf_6 : decode cX3_valueOf 6 = .ok (.invokevirtual 60, 3) := by decide +kernel
theorem dX3_valueOf_9 : decode cX3_valueOf 9 = .ok (.ireturn, 1) := by decide +kernel
theorem dX3_valueOf_10 : decode cX3_valueOf 10 = .ok (.iload_n 2, 1) := by decide +kernel
theorem dX3_valueOf_11 : decode cX3_valueOf 11 = .ok (.iconst 1, 1) := by decide +kernel
theorem dX3_valueOf_12 : decode cX3_valueOf 12 = .ok (.if_icmp .ne 11, 3) := by decide +kernel
theorem dX3_valueOf_15 : decode cX3_valueOf 15 = .ok (.aload_n 0, 1) := by decide +kernel
theorem dX3_valueOf_16 : decode cX3_valueOf 16 = .ok (.iload_n 1, 1) := by decide +kernel
theorem dX3_valueOf_17 : decode cX3_valueOf 17 = .ok (.invokevirtual 63, 3) := by decide +kernel
theorem dX3_valueOf_20 : decode cX3_valueOf 20 = .ok (.goto 8, 3) := by decide +kernel
theorem dX3_valueOf_23 : decode cX3_valueOf 23 = .ok (.aload_n 0, 1) := by decide +kernel
theorem dX3_valueOf_24 : decode cX3_valueOf 24 = .ok (.iload_n 1, 1) := by decide +kernel
theorem dX3_valueOf_25 : decode cX3_valueOf 25 = .ok (.invokevirtual 54, 3) := by decide +kernel
theorem dX3_valueOf_28 : decode cX3_valueOf 28 = .ok (.ireturn, 1) := by decide +kernel
set_option maxRecDepth 20000 in
theorem ggX3_change_X3_mayBecome : GoodIn wsX3_change wsX3_mayBecome := goodIn_r _ [8, 9, 10, 11, 7, 12, 13, 14, 15, 16, 17, 18, 19, 20, 21, 22, 23, 24, 25, 26, 27, 28] rfl (by decide +kernel)
set_option maxRecDepth 20000 in
theorem gX3_change_X3_mayBecome : GoodIn wsX3_change (wsV RX3 66 RX3 yX3_mayBecome wsX3_mayBecome) := goodIn_app (goodIn_of _ (by decide +kernel)) ggX3_change_X3_mayBecome
theorem dX3_change_0 : decode cX3_change 0 = .ok (.aload_n 0, 1) := by decide +kernel
theorem dX3_change_1 : decode cX3_change 1 = .ok (.iload_n 1, 1) := by decide +kernel
theorem dX3_change_2 : decode cX3_change 2 = .ok (.iload_n 2, 1) := by decide +kernel
theorem dX3_change_3 : decode cX3_change 3 = .ok (.iload_n 3, 1) := by decide +kernel
theorem dX3_change_4 : decode cX3_change 4 = .ok (.invokevirtual 66, 3) := by decide +kernel
theorem dX3_change_7 : decode cX3_change 7 = .ok (.ifCond .ne 4, 3) := by decide +kernel
theorem dX3_change_10 : decode cX3_change 10 = .ok (.return_, 1) := by decide +kernel
theorem dX3_change_11 : decode cX3_change 11 = .ok (.iload_n 2, 1) := by decide +kernel
theorem dX3_change_12 : decode cX3_change 12 = .ok (.ifCond .ne 13, 3) := by decide +kernel
theorem dX3_change_15 : decode cX3_change 15 = .ok (.aload_n 0, 1) := by decide +kernel
theorem dX3_change_16 : decode cX3_change 16 = .ok (.getfield 9, 3) := by decide +kernel
theorem dX3_change_19 : decode cX3_change 19 = .ok (.iload_n 1, 1) := by decide +kernel
theorem dX3_change_20 : decode cX3_change 20 = .ok (.iload_n 3, 1) := by decide +kernel
theorem dX3_change_21 : decode cX3_change 21 = .ok (.iastore, 1) := by decide +kernel
theorem dX3_change_22 : decode cX3_change 22 = .ok (.goto 25, 3) := by decide +kernel
theorem dX3_change_25 : decode cX3_change 25 = .ok (.iload_n 2, 1) := by decide +kernel
theorem dX3_change_26 : decode cX3_change 26 = .ok (.iconst 1, 1) := by decide +kernel
theorem dX3_change_27 : decode cX3_change 27 = .ok (.if_icmp .ne 13, 3) := by decide +kernel
theorem dX3_change_30 : decode cX3_change 30 = .ok (.aload_n 0, 1) := by decide +kernel
theorem dX3_change_31 : decode cX3_change 31 = .ok (.getfield 24, 3) := by decide +kernel
theorem dX3_change_34 : decode cX3_change 34 = .ok (.iload_n 1, 1) := by decide +kernel
theorem dX3_change_35 : decode cX3_change 35 = .ok (.iload_n 3, 1) := by decide +kernel
theorem dX3_change_36 : decode cX3_change 36 = .ok (.iastore, 1) := by decide +kernel
theorem dX3_change_37 : decode cX3_change 37 = .ok (.goto 10, 3) := by decide +kernel
theorem dX3_change_40 : decode cX3_change 40 = .ok (.aload_n 0, 1) := by decide +kernel
theorem dX3_change_41 : decode cX3_change 41 = .ok (.getfield 30, 3) := by decide +kernel
theorem dX3_change_44 : decode cX3_change 44 = .ok (.iload_n 1, 1) := by decide +kernel
theorem dX3_change_45 : decode cX3_change 45 = .ok (.iload_n 3, 1) := by decide +kernel
theorem dX3_change_46 : decode cX3_change 46 = .ok (.iastore, 1) := by decide +kernel
theorem dX3_change_47 : decode cX3_change 47 = .ok (.return_, 1) := by decide +kernel
set_option maxRecDepth 20000 in
theorem ggX3_cars_X3_flowOf : GoodIn wsX3_cars wsX3_flowOf := goodIn_r _ [5, 6, 7, 8, 9, 10, 11, 12, 13, 14, 15, 16] rfl (by decide +kernel)
set_option maxRecDepth 20000 in
theorem gX3_cars_X3_flowOf : GoodIn wsX3_cars (wsV RX3 63 RX3 yX3_flowOf wsX3_flowOf) := goodIn_app (goodIn_of _ (by decide +kernel)) ggX3_cars_X3_flowOf
theorem dX3_cars_0 : decode cX3_cars 0 = .ok (.bipush 24, 2) := by decide +kernel
theorem dX3_cars_2 : decode cX3_cars 2 = .ok (.aload_n 0, 1) := by decide +kernel
theorem dX3_cars_3 : decode cX3_cars 3 = .ok (.iload_n 1, 1) := by decide +kernel
theorem dX3_cars_4 : decode cX3_cars 4 = .ok (.invokevirtual 63, 3) := by decide +kernel
theorem dX3_cars_7 : decode cX3_cars 7 = .ok (.imul, 1) := by decide +kernel
theorem dX3_cars_8 : decode cX3_cars 8 = .ok (.ireturn, 1) := by decide +kernel
set_option maxRecDepth 20000 in
theorem ggX3_passes_X3_flowOf : GoodIn wsX3_passes wsX3_flowOf := goodIn_r _ [5, 6, 7, 8, 9, 10, 11, 12, 13, 14, 15, 16] rfl (by decide +kernel)
set_option maxRecDepth 20000 in
theorem gX3_passes_X3_flowOf : GoodIn wsX3_passes (wsV RX3 63 RX3 yX3_flowOf wsX3_flowOf) := goodIn_app (goodIn_of _ (by decide +kernel)) ggX3_passes_X3_flowOf
theorem dX3_passes_0 : decode cX3_passes 0 = .ok (.aload_n 0, 1) := by decide +kernel
theorem dX3_passes_1 : decode cX3_passes 1 = .ok (.iload_n 1, 1) := by decide +kernel
theorem dX3_passes_2 : decode cX3_passes 2 = .ok (.invokevirtual 63, 3) := by decide +kernel
theorem dX3_passes_5 : decode cX3_passes 5 = .ok (.istore_n 3, 1) := by decide +kernel
theorem dX3_passes_6 : decode cX3_passes 6 = .ok (.iload_n 3, 1) := by decide +kernel
theorem dX3_passes_7 : decode cX3_passes 7 = .ok (.iconst 1, 1) := by decide +kernel
theorem dX3_passes_8 : decode cX3_passes 8 = .ok (.if_icmp .ge 9, 3) := by decide +kernel
theorem dX3_passes_11 : decode cX3_passes 11 = .ok (.sipush 1440, 3) := by decide +kernel
theorem dX3_passes_14 : decode cX3_passes 14 = .ok (.goto 9, 3) := by decide +kernel
theorem dX3_passes_17 : decode cX3_passes 17 = .ok (.bipush 60, 2) := by decide +kernel
theorem dX3_passes_19 : decode cX3_passes 19 = .ok (.iload_n 2, 1) := by decide +kernel
theorem dX3_passes_20 : decode cX3_passes 20 = .ok (.imul, 1) := by decide +kernel
theorem dX3_passes_21 : decode cX3_passes 21 = .ok (.iload_n 3, 1) := by decide +kernel
theorem dX3_passes_22 : decode cX3_passes 22 = .ok (.idiv, 1) := by decide +kernel
theorem dX3_passes_23 : decode cX3_passes 23 = .ok (.ireturn, 1) := by decide +kernel
set_option maxRecDepth 20000 in
theorem ggX3_firstCarSince_X3_flowOf : GoodIn wsX3_firstCarSince wsX3_flowOf := goodIn_r _ [5, 6, 7, 8, 9, 10, 11, 12, 13, 14, 15, 16] rfl (by decide +kernel)
set_option maxRecDepth 20000 in
theorem gX3_firstCarSince_X3_flowOf : GoodIn wsX3_firstCarSince (wsV RX3 63 RX3 yX3_flowOf wsX3_flowOf) := goodIn_app (goodIn_of _ (by decide +kernel)) ggX3_firstCarSince_X3_flowOf
theorem dX3_firstCarSince_0 : decode cX3_firstCarSince 0 = .ok (.iload_n 2, 1) := by decide +kernel
theorem dX3_firstCarSince_1 : decode cX3_firstCarSince 1 = .ok (.aload_n 0, 1) := by decide +kernel
theorem dX3_firstCarSince_2 : decode cX3_firstCarSince 2 = .ok (.iload_n 1, 1) := by decide +kernel
theorem dX3_firstCarSince_3 : decode cX3_firstCarSince 3 = .ok (.invokevirtual 63, 3) := by decide +kernel
theorem dX3_firstCarSince_6 : decode cX3_firstCarSince 6 = .ok (.imul, 1) := by decide +kernel
theorem dX3_firstCarSince_7 : decode cX3_firstCarSince 7 = .ok (.bipush 59, 2) := by decide +kernel
theorem dX3_firstCarSince_9 : decode cX3_firstCarSince 9 = .ok (.iadd, 1) := by decide +kernel
theorem dX3_firstCarSince_10 : decode cX3_firstCarSince 10 = .ok (.bipush 60, 2) := by decide +kernel
theorem dX3_firstCarSince_12 : decode cX3_firstCarSince 12 = .ok (.idiv, 1) := by decide +kernel
theorem dX3_firstCarSince_13 : decode cX3_firstCarSince 13 = .ok (.ireturn, 1) := by decide +kernel
set_option maxRecDepth 20000 in
theorem ggX3_measureTo_J7_fill_53178 : GoodIn wsX3_measureTo wsJ7_fill_53178 := goodIn_r _ [6] rfl (by decide +kernel)
set_option maxRecDepth 20000 in
theorem gX3_measureTo_J7_fill_53178 : GoodIn wsX3_measureTo (va_wsS RX3 70 yJ7_fill_53178 wsJ7_fill_53178) := goodIn_app (goodIn_of _ (by decide +kernel)) ggX3_measureTo_J7_fill_53178
set_option maxRecDepth 20000 in
theorem ggX3_measureTo_X3_hasPlace : GoodIn wsX3_measureTo wsX3_hasPlace := goodIn_r _ [11, 1, 27, 28, 29, 30, 31, 32, 33, 34, 35, 36] rfl (by decide +kernel)
set_option maxRecDepth 20000 in
theorem gX3_measureTo_X3_hasPlace : GoodIn wsX3_measureTo (wsV RX3 43 RX3 yX3_hasPlace wsX3_hasPlace) := goodIn_app (goodIn_of _ (by decide +kernel)) ggX3_measureTo_X3_hasPlace
set_option maxRecDepth 20000 in
theorem ggX3_measureTo_X3_startOf : GoodIn wsX3_measureTo wsX3_startOf := goodIn_r _ [15, 16, 27, 28, 29, 30, 31, 32, 33, 34, 35, 36] rfl (by decide +kernel)
set_option maxRecDepth 20000 in
theorem gX3_measureTo_X3_startOf : GoodIn wsX3_measureTo (wsV RX3 76 RX3 yX3_startOf wsX3_startOf) := goodIn_app (goodIn_of _ (by decide +kernel)) ggX3_measureTo_X3_startOf
set_option maxRecDepth 20000 in
theorem ggX3_measureTo_X3_endOf : GoodIn wsX3_measureTo wsX3_endOf := goodIn_r _ [20, 21, 27, 28, 29, 30, 31, 32, 33, 34, 35, 36] rfl (by decide +kernel)
set_option maxRecDepth 20000 in
theorem gX3_measureTo_X3_endOf : GoodIn wsX3_measureTo (wsV RX3 79 RX3 yX3_endOf wsX3_endOf) := goodIn_app (goodIn_of _ (by decide +kernel)) ggX3_measureTo_X3_endOf
set_option maxRecDepth 20000 in
theorem ggX3_measureTo_X3_minutesOf : GoodIn wsX3_measureTo wsX3_minutesOf := goodIn_r _ [25, 26, 27, 28, 29, 30, 31, 32, 33, 34, 35, 36] rfl (by decide +kernel)
set_option maxRecDepth 20000 in
theorem gX3_measureTo_X3_minutesOf : GoodIn wsX3_measureTo (wsV RX3 82 RX3 yX3_minutesOf wsX3_minutesOf) := goodIn_app (goodIn_of _ (by decide +kernel)) ggX3_measureTo_X3_minutesOf
theorem dX3_measureTo_0 : decode cX3_measureTo 0 = .ok (.aload_n 2, 1) := by decide +kernel
theorem dX3_measureTo_1 : decode cX3_measureTo 1 = .ok (.sipush 9999, 3) := by decide +kernel
theorem dX3_measureTo_4 : decode cX3_measureTo 4 = .ok (.invokestatic 70, 3) := by decide +kernel
theorem dX3_measureTo_7 : decode cX3_measureTo 7 = .ok (.aload_n 0, 1) := by decide +kernel
theorem dX3_measureTo_8 : decode cX3_measureTo 8 = .ok (.iload_n 1, 1) := by decide +kernel
theorem dX3_measureTo_9 : decode cX3_measureTo 9 = .ok (.invokevirtual 43, 3) := by decide +kernel
theorem dX3_measureTo_12 : decode cX3_measureTo 12 = .ok (.ifCond .eq 10, 3) := by decide +kernel
theorem dX3_measureTo_15 : decode cX3_measureTo 15 = .ok (.aload_n 2, 1) := by decide +kernel
theorem dX3_measureTo_16 : decode cX3_measureTo 16 = .ok (.arraylength, 1) := by decide +kernel
theorem dX3_measureTo_17 : decode cX3_measureTo 17 = .ok (.bipush 8, 2) := by decide +kernel
theorem dX3_measureTo_19 : decode cX3_measureTo 19 = .ok (.if_icmp .ge 4, 3) := by decide +kernel
theorem dX3_measureTo_22 : decode cX3_measureTo 22 = .ok (.return_, 1) := by decide +kernel
theorem dX3_measureTo_23 : decode cX3_measureTo 23 = .ok (.aload_n 2, 1) := by decide +kernel
theorem dX3_measureTo_24 : decode cX3_measureTo 24 = .ok (.iload_n 1, 1) := by decide +kernel
theorem dX3_measureTo_25 : decode cX3_measureTo 25 = .ok (.iconst 0, 1) := by decide +kernel
theorem dX3_measureTo_26 : decode cX3_measureTo 26 = .ok (.iastore, 1) := by decide +kernel
theorem dX3_measureTo_27 : decode cX3_measureTo 27 = .ok (.iconst 1, 1) := by decide +kernel
theorem dX3_measureTo_28 : decode cX3_measureTo 28 = .ok (.istore_n 3, 1) := by decide +kernel
theorem dX3_measureTo_29 : decode cX3_measureTo 29 = .ok (.iconst 0, 1) := by decide +kernel
theorem dX3_measureTo_30 : decode cX3_measureTo 30 = .ok (.istore 4, 2) := by decide +kernel
theorem dX3_measureTo_32 : decode cX3_measureTo 32 = .ok (.iload 4, 2) := by decide +kernel
theorem dX3_measureTo_34 : decode cX3_measureTo 34 = .ok (.aload_n 0, 1) := by decide +kernel
theorem dX3_measureTo_35 : decode cX3_measureTo 35 = .ok (.getfield 36, 3) := by decide +kernel
theorem dX3_measureTo_38 : decode cX3_measureTo 38 = .ok (.if_icmp .ge 100, 3) := by decide +kernel
theorem dX3_measureTo_41 : decode cX3_measureTo 41 = .ok (.iload_n 3, 1) := by decide +kernel
theorem dX3_measureTo_42 : decode cX3_measureTo 42 = .ok (.ifCond .eq 96, 3) := by decide +kernel
theorem dX3_measureTo_45 : decode cX3_measureTo 45 = .ok (.iconst 0, 1) := by decide +kernel
theorem dX3_measureTo_46 : decode cX3_measureTo 46 = .ok (.istore_n 3, 1) := by decide +kernel
theorem dX3_measureTo_47 : decode cX3_measureTo 47 = .ok (.iconst 0, 1) := by decide +kernel
theorem dX3_measureTo_48 : decode cX3_measureTo 48 = .ok (.istore 5, 2) := by decide +kernel
theorem dX3_measureTo_50 : decode cX3_measureTo 50 = .ok (.iload 5, 2) := by decide +kernel
theorem dX3_measureTo_52 : decode cX3_measureTo 52 = .ok (.aload_n 0, 1) := by decide +kernel
theorem dX3_measureTo_53 : decode cX3_measureTo 53 = .ok (.getfield 40, 3) := by decide +kernel
theorem dX3_measureTo_56 : decode cX3_measureTo 56 = .ok (.if_icmp .ge 76, 3) := by decide +kernel
theorem dX3_measureTo_59 : decode cX3_measureTo 59 = .ok (.aload_n 0, 1) := by decide +kernel
theorem dX3_measureTo_60 : decode cX3_measureTo 60 = .ok (.iload 5, 2) := by decide +kernel
theorem dX3_measureTo_62 : decode cX3_measureTo 62 = .ok (.invokevirtual 76, 3) := by decide +kernel
theorem dX3_measureTo_65 : decode cX3_measureTo 65 = .ok (.istore 6, 2) := by decide +kernel
theorem dX3_measureTo_67 : decode cX3_measureTo 67 = .ok (.aload_n 0, 1) := by decide +kernel
theorem dX3_measureTo_68 : decode cX3_measureTo 68 = .ok (.iload 5, 2) := by decide +kernel
theorem dX3_measureTo_70 : decode cX3_measureTo 70 = .ok (.invokevirtual 79, 3) := by decide +kernel
theorem dX3_measureTo_73 : decode cX3_measureTo 73 = .ok (.istore 7, 2) := by decide +kernel
theorem dX3_measureTo_75 : decode cX3_measureTo 75 = .ok (.aload_n 0, 1) := by decide +kernel
theorem dX3_measureTo_76 : decode cX3_measureTo 76 = .ok (.iload 6, 2) := by decide +kernel
theorem dX3_measureTo_78 : decode cX3_measureTo 78 = .ok (.invokevirtual 43, 3) := by decide +kernel
theorem dX3_measureTo_81 : decode cX3_measureTo 81 = .ok (.ifCond .eq 45, 3) := by decide +kernel
theorem dX3_measureTo_84 : decode cX3_measureTo 84 = .ok (.aload_n 0, 1) := by decide +kernel
theorem dX3_measureTo_85 : decode cX3_measureTo 85 = .ok (.iload 7, 2) := by decide +kernel
theorem dX3_measureTo_87 : decode cX3_measureTo 87 = .ok (.invokevirtual 43, 3) := by decide +kernel
theorem dX3_measureTo_90 : decode cX3_measureTo 90 = .ok (.ifCond .ne 6, 3) := by decide +kernel
theorem dX3_measureTo_93 : decode cX3_measureTo 93 = .ok (.goto 33, 3) := by decide +kernel
theorem dX3_measureTo_96 : decode cX3_measureTo 96 = .ok (.aload_n 2, 1) := by decide +kernel
theorem dX3_measureTo_97 : decode cX3_measureTo 97 = .ok (.iload 7, 2) := by decide +kernel
theorem dX3_measureTo_99 : decode cX3_measureTo 99 = .ok (.iaload, 1) := by decide +kernel
theorem dX3_measureTo_100 : decode cX3_measureTo 100 = .ok (.aload_n 0, 1) := by decide +kernel
theorem dX3_measureTo_101 : decode cX3_measureTo 101 = .ok (.iload 5, 2) := by decide +kernel
theorem dX3_measureTo_103 : decode cX3_measureTo 103 = .ok (.invokevirtual 82, 3) := by decide +kernel
theorem dX3_measureTo_106 : decode cX3_measureTo 106 = .ok (.iadd, 1) := by decide +kernel
theorem dX3_measureTo_107 : decode cX3_measureTo 107 = .ok (.istore 8, 2) := by decide +kernel
theorem dX3_measureTo_109 : decode cX3_measureTo 109 = .ok (.iload 8, 2) := by decide +kernel
theorem dX3_measureTo_111 : decode cX3_measureTo 111 = .ok (.aload_n 2, 1) := by decide +kernel
theorem dX3_measureTo_112 : decode cX3_measureTo 112 = .ok (.iload 6, 2) := by decide +kernel
theorem dX3_measureTo_114 : decode cX3_measureTo 114 = .ok (.iaload, 1) := by decide +kernel
theorem dX3_measureTo_115 : decode cX3_measureTo 115 = .ok (.if_icmp .ge 11, 3) := by decide +kernel
theorem dX3_measureTo_118 : decode cX3_measureTo 118 = .ok (.aload_n 2, 1) := by decide +kernel
theorem dX3_measureTo_119 : decode cX3_measureTo 119 = .ok (.iload 6, 2) := by decide +kernel
theorem dX3_measureTo_121 : decode cX3_measureTo 121 = .ok (.iload 8, 2) := by decide +kernel
theorem dX3_measureTo_123 : decode cX3_measureTo 123 = .ok (.iastore, 1) := by decide +kernel
theorem dX3_measureTo_124 : decode cX3_measureTo 124 = .ok (.iconst 1, 1) := by decide +kernel
theorem dX3_measureTo_125 : decode cX3_measureTo 125 = .ok (.istore_n 3, 1) := by decide +kernel
theorem dX3_measureTo_126 : decode cX3_measureTo 126 = .ok (.iinc 5 1, 3) := by decide +kernel
theorem dX3_measureTo_129 : decode cX3_measureTo 129 = .ok (.goto (-79), 3) := by decide +kernel
theorem dX3_measureTo_132 : decode cX3_measureTo 132 = .ok (.iinc 4 1, 3) := by decide +kernel
theorem dX3_measureTo_135 : decode cX3_measureTo 135 = .ok (.goto (-103), 3) := by decide +kernel
theorem dX3_measureTo_138 : decode cX3_measureTo 138 = .ok (.return_, 1) := by decide +kernel
