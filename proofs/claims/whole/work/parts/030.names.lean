theorem dX0_init_0 : decode cX0_init 0 = .ok (.aload_n 0, 1) := by decide +kernel
theorem dX0_init_1 : decode cX0_init 1 = .ok (.invokespecial 3, 3) := by decide +kernel
theorem dX0_init_4 : decode cX0_init 4 = .ok (.aload_n 0, 1) := by decide +kernel
theorem dX0_init_5 : decode cX0_init 5 = .ok (.bipush 50, 2) := by decide +kernel
theorem dX0_init_7 : decode cX0_init 7 = .ok (.newarray .int, 2) := by decide +kernel
theorem dX0_init_9 : decode cX0_init 9 = .ok (.putfield 9, 3) := by decide +kernel
theorem dX0_init_12 : decode cX0_init 12 = .ok (.aload_n 0, 1) := by decide +kernel
theorem dX0_init_13 : decode cX0_init 13 = .ok (.bipush 24, 2) := by decide +kernel
theorem dX0_init_15 : decode cX0_init 15 = .ok (.newarray .int, 2) := by decide +kernel
theorem dX0_init_17 : decode cX0_init 17 = .ok (.putfield 15, 3) := by decide +kernel
theorem dX0_init_20 : decode cX0_init 20 = .ok (.return_, 1) := by decide +kernel
theorem dX0_has_0 : decode cX0_has 0 = .ok (.iload_n 1, 1) := by decide +kernel
theorem dX0_has_1 : decode cX0_has 1 = .ok (.ifCond .lt 21, 3) := by decide +kernel
theorem dX0_has_4 : decode cX0_has 4 = .ok (.iload_n 1, 1) := by decide +kernel
theorem dX0_has_5 : decode cX0_has 5 = .ok (.aload_n 0, 1) := by decide +kernel
theorem dX0_has_6 : decode cX0_has 6 = .ok (.getfield 18, 3) := by decide +kernel
theorem dX0_has_9 : decode cX0_has 9 = .ok (.if_icmp .ge 13, 3) := by decide +kernel
theorem dX0_has_12 : decode cX0_has 12 = .ok (.iload_n 1, 1) := by decide +kernel
theorem dX0_has_13 : decode cX0_has 13 = .ok (.bipush 50, 2) := by decide +kernel
theorem dX0_has_15 : decode cX0_has 15 = .ok (.if_icmp .ge 7, 3) := by decide +kernel
theorem dX0_has_18 : decode cX0_has 18 = .ok (.iconst 1, 1) := by decide +kernel
theorem dX0_has_19 : decode cX0_has 19 = .ok (.goto 4, 3) := by decide +kernel
theorem dX0_has_22 : decode cX0_has 22 = .ok (.iconst 0, 1) := by decide +kernel
theorem dX0_has_23 : decode cX0_has 23 = .ok (.ireturn, 1) := by decide +kernel
theorem dX0_add_0 : decode cX0_add 0 = .ok (.iload_n 1, 1) := by decide +kernel
theorem dX0_add_1 : decode cX0_add 1 = .ok (.ifCond .lt 9, 3) := by decide +kernel
theorem dX0_add_4 : decode cX0_add 4 = .ok (.iload_n 1, 1) := by decide +kernel
theorem dX0_add_5 : decode cX0_add 5 = .ok (.bipush 8, 2) := by decide +kernel
theorem dX0_add_7 : decode cX0_add 7 = .ok (.if_icmp .lt 5, 3) := by decide +kernel
theorem dX0_add_10 : decode cX0_add 10 = .ok (.iconst (-1), 1) := by decide +kernel
theorem dX0_add_11 : decode cX0_add 11 = .ok (.ireturn, 1) := by decide +kernel
theorem dX0_add_12 : decode cX0_add 12 = .ok (.aload_n 0, 1) := by decide +kernel
theorem dX0_add_13 : decode cX0_add 13 = .ok (.getfield 18, 3) := by decide +kernel
theorem dX0_add_16 : decode cX0_add 16 = .ok (.ifCond .lt 12, 3) := by decide +kernel
theorem dX0_add_19 : decode cX0_add 19 = .ok (.aload_n 0, 1) := by decide +kernel
theorem dX0_add_20 : decode cX0_add 20 = .ok (.getfield 18, 3) := by decide +kernel
theorem dX0_add_23 : decode cX0_add 23 = .ok (.bipush 50, 2) := by decide +kernel
theorem dX0_add_25 : decode cX0_add 25 = .ok (.if_icmp .lt 6, 3) := by decide +kernel
theorem dX0_add_28 : decode cX0_add 28 = .ok (.bipush (-3), 2) := by decide +kernel
theorem dX0_add_30 : decode cX0_add 30 = .ok (.ireturn, 1) := by decide +kernel
theorem dX0_add_31 : decode cX0_add 31 = .ok (.aload_n 0, 1) := by decide +kernel
theorem dX0_add_32 : decode cX0_add 32 = .ok (.getfield 9, 3) := by decide +kernel
theorem dX0_add_35 : decode cX0_add 35 = .ok (.aload_n 0, 1) := by decide +kernel
theorem dX0_add_36 : decode cX0_add 36 = .ok (.getfield 18, 3) := by decide +kernel
theorem dX0_add_39 : decode cX0_add 39 = .ok (.iload_n 1, 1) := by decide +kernel
theorem dX0_add_40 : decode cX0_add 40 = .ok (.iastore, 1) := by decide +kernel
theorem dX0_add_41 : decode cX0_add 41 = .ok (.aload_n 0, 1) := by decide +kernel
theorem dX0_add_42 : decode cX0_add 42 = .ok (.dup, 1) := by decide +kernel
theorem dX0_add_43 : decode cX0_add 43 = .ok (.getfield 18, 3) := by decide +kernel
theorem dX0_add_46 : decode cX0_add 46 = .ok (.iconst 1, 1) := by decide +kernel
theorem dX0_add_47 : decode cX0_add 47 = .ok (.iadd, 1) := by decide +kernel
theorem dX0_add_48 : decode cX0_add 48 = .ok (.putfield 18, 3) := by decide +kernel
theorem dX0_add_51 : decode cX0_add 51 = .ok (.aload_n 0, 1) := by decide +kernel
theorem dX0_add_52 : decode cX0_add 52 = .ok (.getfield 18, 3) := by decide +kernel
theorem dX0_add_55 : decode cX0_add 55 = .ok (.iconst 1, 1) := by decide +kernel
theorem dX0_add_56 : decode cX0_add 56 = .ok (.isub, 1) := by decide +kernel
theorem dX0_add_57 : decode cX0_add 57 = .ok (.ireturn, 1) := by decide +kernel
theorem dX0_isUnder_0 : decode cX0_isUnder 0 = .ok (.iload_n 0, 1) := by decide +kernel
theorem dX0_isUnder_1 : decode cX0_isUnder 1 = .ok (.istore_n 2, 1) := by decide +kernel
theorem dX0_isUnder_2 : decode cX0_isUnder 2 = .ok (.iconst 0, 1) := by decide +kernel
theorem dX0_isUnder_3 : decode cX0_isUnder 3 = .ok (.istore_n 3, 1) := by decide +kernel
theorem dX0_isUnder_4 : decode cX0_isUnder 4 = .ok (.iload_n 3, 1) := by decide +kernel
theorem dX0_isUnder_5 : decode cX0_isUnder 5 = .ok (.bipush 8, 2) := by decide +kernel
theorem dX0_isUnder_7 : decode cX0_isUnder 7 = .ok (.if_icmp .ge 32, 3) := by decide +kernel
theorem dX0_isUnder_10 : decode cX0_isUnder 10 = .ok (.iload_n 2, 1) := by decide +kernel
theorem dX0_isUnder_11 : decode cX0_isUnder 11 = .ok (.ifCond .lt 28, 3) := by decide +kernel
theorem dX0_isUnder_14 : decode cX0_isUnder 14 = .ok (.iload_n 2, 1) := by decide +kernel
theorem dX0_isUnder_15 : decode cX0_isUnder 15 = .ok (.bipush 8, 2) := by decide +kernel
theorem dX0_isUnder_17 : decode cX0_isUnder 17 = .ok (.if_icmp .ge 22, 3) := by decide +kernel
theorem dX0_isUnder_20 : decode cX0_isUnder 20 = .ok (.iload_n 2, 1) := by decide +kernel
theorem dX0_isUnder_21 : decode cX0_isUnder 21 = .ok (.iload_n 1, 1) := by decide +kernel
theorem dX0_isUnder_22 : decode cX0_isUnder 22 = .ok (.if_icmp .ne 5, 3) := by decide +kernel
theorem dX0_isUnder_25 : decode cX0_isUnder 25 = .ok (.iconst 1, 1) := by decide +kernel
theorem dX0_isUnder_26 : decode cX0_isUnder 26 = .ok (.ireturn, 1) := by decide +kernel
theorem dX0_isUnder_27 : decode cX0_isUnder 27 = .ok (.getstatic 22, 3) := by decide +kernel
theorem dX0_isUnder_30 : decode cX0_isUnder 30 = .ok (.iload_n 2, 1) := by decide +kernel
theorem dX0_isUnder_31 : decode cX0_isUnder 31 = .ok (.iaload, 1) := by decide +kernel
theorem dX0_isUnder_32 : decode cX0_isUnder 32 = .ok (.istore_n 2, 1) := by decide +kernel
theorem dX0_isUnder_33 : decode cX0_isUnder 33 = .ok (.iinc 3 1, 3) := by decide +kernel
theorem dX0_isUnder_36 : decode cX0_isUnder 36 = .ok (.goto (-32), 3) := by decide +kernel
theorem dX0_isUnder_39 : decode cX0_isUnder 39 = .ok (.iconst 0, 1) := by decide +kernel
theorem dX0_isUnder_40 : decode cX0_isUnder 40 = .ok (.ireturn, 1) := by decide +kernel
set_option maxRecDepth 20000 in
theorem ggX0_perform_X0_has : GoodIn wsX0_perform wsX0_has := goodIn_r _ [9, 10, 21, 22, 23, 24, 25, 26] rfl (by decide +kernel)
set_option maxRecDepth 20000 in
theorem gX0_perform_X0_has : GoodIn wsX0_perform (wsV RX0 28 RX0 yX0_has wsX0_has) := goodIn_app (goodIn_of _ (by decide +kernel)) ggX0_perform_X0_has
set_option maxRecDepth 20000 in
theorem ggX0_perform_X0_run : GoodIn wsX0_perform wsX0_run := goodIn_r _ [14, 15, 16, 1, 17, 2, 4, 18, 19, 8, 20, 11, 12, 13, 21, 22, 23, 24, 25, 26] rfl (by decide +kernel)
set_option maxRecDepth 20000 in
theorem gX0_perform_X0_run : GoodIn wsX0_perform (wsV RX0 38 RX0 yX0_run wsX0_run) := goodIn_app (goodIn_of _ (by decide +kernel)) ggX0_perform_X0_run
theorem dX0_perform_0 : decode cX0_perform 0 = .ok (.aload_n 0, 1) := by decide +kernel
theorem dX0_perform_1 : decode cX0_perform 1 = .ok (.iconst 0, 1) := by decide +kernel
theorem dX0_perform_2 : decode cX0_perform 2 = .ok (.putfield 25, 3) := by decide +kernel
theorem dX0_perform_5 : decode cX0_perform 5 = .ok (.aload_n 0, 1) := by decide +kernel
theorem dX0_perform_6 : decode cX0_perform 6 = .ok (.iload_n 1, 1) := by decide +kernel
theorem dX0_perform_7 : decode cX0_perform 7 = .ok (.invokevirtual 28, 3) := by decide +kernel
theorem dX0_perform_10 : decode cX0_perform 10 = .ok (.ifCond .eq 12, 3) := by decide +kernel
theorem dX0_perform_13 : decode cX0_perform 13 = .ok (.iload_n 2, 1) := by decide +kernel
theorem dX0_perform_14 : decode cX0_perform 14 = .ok (.ifCond .lt 8, 3) := by decide +kernel
theorem dX0_perform_17 : decode cX0_perform 17 = .ok (.iload_n 2, 1) := by decide +kernel
theorem dX0_perform_18 : decode cX0_perform 18 = .ok (.iconst 4, 1) := by decide +kernel
theorem dX0_perform_19 : decode cX0_perform 19 = .ok (.if_icmp .lt 5, 3) := by decide +kernel
theorem dX0_perform_22 : decode cX0_perform 22 = .ok (.iconst 0, 1) := by decide +kernel
theorem dX0_perform_23 : decode cX0_perform 23 = .ok (.ireturn, 1) := by decide +kernel
theorem dX0_perform_24 : decode cX0_perform 24 = .ok (.aload_n 0, 1) := by decide +kernel
theorem dX0_perform_25 : decode cX0_perform 25 = .ok (.iload_n 1, 1) := by decide +kernel
theorem dX0_perform_26 : decode cX0_perform 26 = .ok (.putfield 32, 3) := by decide +kernel
theorem dX0_perform_29 : decode cX0_perform 29 = .ok (.aload_n 0, 1) := by decide +kernel
theorem dX0_perform_30 : decode cX0_perform 30 = .ok (.aload_n 0, 1) := by decide +kernel
theorem dX0_perform_31 : decode cX0_perform 31 = .ok (.getfield 9, 3) := by decide +kernel
theorem dX0_perform_34 : decode cX0_perform 34 = .ok (.iload_n 1, 1) := by decide +kernel
theorem dX0_perform_35 : decode cX0_perform 35 = .ok (.iaload, 1) := by decide +kernel
theorem dX0_perform_36 : decode cX0_perform 36 = .ok (.putfield 35, 3) := by decide +kernel
theorem dX0_perform_39 : decode cX0_perform 39 = .ok (.aload_n 0, 1) := by decide +kernel
theorem dX0_perform_40 : decode cX0_perform 40 = .ok (.iload_n 2, 1) := by decide +kernel
theorem dX0_perform_41 : decode cX0_perform 41 = .ok (.aload_n 0, 1) := by decide +kernel
theorem dX0_perform_42 : decode cX0_perform 42 = .ok (.getfield 35, 3) := by decide +kernel
theorem dX0_perform_45 : decode cX0_perform 45 = .ok (.iload_n 3, 1) := by decide +kernel
theorem dX0_perform_46 : decode cX0_perform 46 = .ok (.iconst 0, 1) := by decide +kernel
theorem dX0_perform_47 : decode cX0_perform 47 = .ok (.invokevirtual 38, 3) := by decide +kernel
theorem dX0_perform_50 : decode cX0_perform 50 = .ok (.ireturn, 1) := by decide +kernel
theorem dX0_traced_0 : decode cX0_traced 0 = .ok (.iload_n 1, 1) := by decide +kernel
theorem dX0_traced_1 : decode cX0_traced 1 = .ok (.ifCond .lt 26, 3) := by decide +kernel
theorem dX0_traced_4 : decode cX0_traced 4 = .ok (.iload_n 1, 1) := by decide +kernel
theorem dX0_traced_5 : decode cX0_traced 5 = .ok (.aload_n 0, 1) := by decide +kernel
theorem dX0_traced_6 : decode cX0_traced 6 = .ok (.getfield 25, 3) := by decide +kernel
theorem dX0_traced_9 : decode cX0_traced 9 = .ok (.if_icmp .ge 18, 3) := by decide +kernel
theorem dX0_traced_12 : decode cX0_traced 12 = .ok (.iload_n 1, 1) := by decide +kernel
theorem dX0_traced_13 : decode cX0_traced 13 = .ok (.bipush 24, 2) := by decide +kernel
theorem dX0_traced_15 : decode cX0_traced 15 = .ok (.if_icmp .ge 12, 3) := by decide +kernel
theorem dX0_traced_18 : decode cX0_traced 18 = .ok (.aload_n 0, 1) := by decide +kernel
theorem dX0_traced_19 : decode cX0_traced 19 = .ok (.getfield 15, 3) := by decide +kernel
theorem dX0_traced_22 : decode cX0_traced 22 = .ok (.iload_n 1, 1) := by decide +kernel
theorem dX0_traced_23 : decode cX0_traced 23 = .ok (.iaload, 1) := by decide +kernel
theorem dX0_traced_24 : decode cX0_traced 24 = .ok (.goto 4, 3) := by decide +kernel
theorem dX0_traced_27 : decode cX0_traced 27 = .ok (.iconst (-1), 1) := by decide +kernel
theorem dX0_traced_28 : decode cX0_traced 28 = .ok (.ireturn, 1) := by decide +kernel
theorem dX0_ownerOf_0 : decode cX0_ownerOf 0 = .ok (.iload_n 1, 1) := by decide +kernel
theorem dX0_ownerOf_1 : decode cX0_ownerOf 1 = .ok (.istore_n 2, 1) := by decide +kernel
theorem dX0_ownerOf_2 : decode cX0_ownerOf 2 = .ok (.iconst 0, 1) := by decide +kernel
theorem dX0_ownerOf_3 : decode cX0_ownerOf 3 = .ok (.istore_n 3, 1) := by decide +kernel
theorem dX0_ownerOf_4 : decode cX0_ownerOf 4 = .ok (.iload_n 3, 1) := by decide +kernel
theorem dX0_ownerOf_5 : decode cX0_ownerOf 5 = .ok (.bipush 8, 2) := by decide +kernel
theorem dX0_ownerOf_7 : decode cX0_ownerOf 7 = .ok (.if_icmp .ge 39, 3) := by decide +kernel
theorem dX0_ownerOf_10 : decode cX0_ownerOf 10 = .ok (.iload_n 2, 1) := by decide +kernel
theorem dX0_ownerOf_11 : decode cX0_ownerOf 11 = .ok (.ifCond .lt 35, 3) := by decide +kernel
theorem dX0_ownerOf_14 : decode cX0_ownerOf 14 = .ok (.iload_n 2, 1) := by decide +kernel
theorem dX0_ownerOf_15 : decode cX0_ownerOf 15 = .ok (.bipush 8, 2) := by decide +kernel
theorem dX0_ownerOf_17 : decode cX0_ownerOf 17 = .ok (.if_icmp .ge 29, 3) := by decide +kernel
theorem dX0_ownerOf_20 : decode cX0_ownerOf 20 = .ok (.getstatic 42, 3) := by decide +kernel
theorem dX0_ownerOf_23 : decode cX0_ownerOf 23 = .ok (.iload_n 2, 1) := by decide +kernel
theorem dX0_ownerOf_24 : decode cX0_ownerOf 24 = .ok (.iconst 4, 1) := by decide +kernel
theorem dX0_ownerOf_25 : decode cX0_ownerOf 25 = .ok (.imul, 1) := by decide +kernel
theorem dX0_ownerOf_26 : decode cX0_ownerOf 26 = .ok (.iload_n 0, 1) := by decide +kernel
theorem dX0_ownerOf_27 : decode cX0_ownerOf 27 = .ok (.iadd, 1) := by decide +kernel
theorem dX0_ownerOf_28 : decode cX0_ownerOf 28 = .ok (.iaload, 1) := by decide +kernel
theorem dX0_ownerOf_29 : decode cX0_ownerOf 29 = .ok (.ifCond .eq 5, 3) := by decide +kernel
theorem dX0_ownerOf_32 : decode cX0_ownerOf 32 = .ok (.iload_n 2, 1) := by decide +kernel
theorem dX0_ownerOf_33 : decode cX0_ownerOf 33 = .ok (.ireturn, 1) := by decide +kernel
theorem dX0_ownerOf_34 : decode cX0_ownerOf 34 = .ok (.getstatic 22, 3) := by decide +kernel
theorem dX0_ownerOf_37 : decode cX0_ownerOf 37 = .ok (.iload_n 2, 1) := by decide +kernel
theorem dX0_ownerOf_38 : decode cX0_ownerOf 38 = .ok (.iaload, 1) := by decide +kernel
theorem dX0_ownerOf_39 : decode cX0_ownerOf 39 = .ok (.istore_n 2, 1) := by decide +kernel
theorem dX0_ownerOf_40 : decode cX0_ownerOf 40 = .ok (.iinc 3 1, 3) := by decide +kernel
theorem dX0_ownerOf_43 : decode cX0_ownerOf 43 = .ok (.goto (-39), 3) := by decide +kernel
theorem dX0_ownerOf_46 : decode cX0_ownerOf 46 = .ok (.iconst (-1), 1) := by decide +kernel
theorem dX0_ownerOf_47 : decode cX0_ownerOf 47 = .ok (.ireturn, 1) := by decide +kernel
set_option maxRecDepth 20000 in
theorem ggX0_run_X0_ownerOf : GoodIn wsX0_run wsX0_ownerOf := goodIn_r _ [10, 2, 1] rfl (by decide +kernel)
set_option maxRecDepth 20000 in
theorem gX0_run_X0_ownerOf : GoodIn wsX0_run (va_wsS RX0 45 yX0_ownerOf wsX0_ownerOf) := goodIn_app (goodIn_of _ (by decide +kernel)) ggX0_run_X0_ownerOf
set_option maxRecDepth 20000 in
theorem ggX0_run_X0_run : GoodIn wsX0_run wsX0_run := goodIn_r _ [0, 1, 2, 3, 4, 5, 6, 7, 8, 9, 10, 11, 12, 13, 14, 15, 16, 17, 18, 19] rfl (by decide +kernel)
set_option maxRecDepth 20000 in
theorem gX0_run_X0_run : GoodIn wsX0_run (wsV RX0 38 RX0 yX0_run wsX0_run) := goodIn_app (goodIn_of _ (by decide +kernel)) ggX0_run_X0_run
theorem dX0_run_0 : decode cX0_run 0 = .ok (.iload_n 1, 1) := by decide +kernel
theorem dX0_run_1 : decode cX0_run 1 = .ok (.iload_n 2, 1) := by decide +kernel
theorem dX0_run_2 : decode cX0_run 2 = .ok (.invokestatic 45, 3) := by decide +kernel
theorem dX0_run_5 : decode cX0_run 5 = .ok (.istore 5, 2) := by decide +kernel
theorem dX0_run_7 : decode cX0_run 7 = .ok (.iload 5, 2) := by decide +kernel
theorem dX0_run_9 : decode cX0_run 9 = .ok (.ifCond .lt 10, 3) := by decide +kernel
theorem dX0_run_12 : decode cX0_run 12 = .ok (.iload 4, 2) := by decide +kernel
theorem dX0_run_14 : decode cX0_run 14 = .ok (.bipush 40, 2) := by decide +kernel
theorem dX0_run_16 : decode cX0_run 16 = .ok (.if_icmp .le 5, 3) := by decide +kernel
theorem dX0_run_19 : decode cX0_run 19 = .ok (.iconst 0, 1) := by decide +kernel
theorem dX0_run_20 : decode cX0_run 20 = .ok (.ireturn, 1) := by decide +kernel
theorem dX0_run_21 : decode cX0_run 21 = .ok (.getstatic 22, 3) := by decide +kernel
theorem dX0_run_24 : decode cX0_run 24 = .ok (.iload 5, 2) := by decide +kernel
theorem dX0_run_26 : decode cX0_run 26 = .ok (.iaload, 1) := by decide +kernel
theorem dX0_run_27 : decode cX0_run 27 = .ok (.istore 6, 2) := by decide +kernel
theorem dX0_run_29 : decode cX0_run 29 = .ok (.iload 4, 2) := by decide +kernel
theorem dX0_run_31 : decode cX0_run 31 = .ok (.iconst 1, 1) := by decide +kernel
theorem dX0_run_32 : decode cX0_run 32 = .ok (.iadd, 1) := by decide +kernel
theorem dX0_run_33 : decode cX0_run 33 = .ok (.istore 7, 2) := by decide +kernel
theorem dX0_run_35 : decode cX0_run 35 = .ok (.getstatic 42, 3) := by decide +kernel
theorem dX0_run_38 : decode cX0_run 38 = .ok (.iload 5, 2) := by decide +kernel
theorem dX0_run_40 : decode cX0_run 40 = .ok (.iconst 4, 1) := by decide +kernel
theorem dX0_run_41 : decode cX0_run 41 = .ok (.imul, 1) := by decide +kernel
theorem dX0_run_42 : decode cX0_run 42 = .ok (.iload_n 1, 1) := by decide +kernel
theorem dX0_run_43 : decode cX0_run 43 = .ok (.iadd, 1) := by decide +kernel
theorem dX0_run_44 : decode cX0_run 44 = .ok (.iaload, 1) := by decide +kernel
theorem dX0_run_45 : decode cX0_run 45 = .ok (.istore 8, 2) := by decide +kernel
theorem dX0_run_47 : decode cX0_run 47 = .ok (.aload_n 0, 1) := by decide +kernel
theorem dX0_run_48 : decode cX0_run 48 = .ok (.getfield 25, 3) := by decide +kernel
theorem dX0_run_51 : decode cX0_run 51 = .ok (.bipush 24, 2) := by decide +kernel
theorem dX0_run_53 : decode cX0_run 53 = .ok (.if_icmp .ge 14, 3) := by decide +kernel
theorem dX0_run_56 : decode cX0_run 56 = .ok (.aload_n 0, 1) := by decide +kernel
theorem dX0_run_57 : decode cX0_run 57 = .ok (.getfield 15, 3) := by decide +kernel
theorem dX0_run_60 : decode cX0_run 60 = .ok (.aload_n 0, 1) := by decide +kernel
theorem dX0_run_61 : decode cX0_run 61 = .ok (.getfield 25, 3) := by decide +kernel
theorem dX0_run_64 : decode cX0_run 64 = .ok (.iload 8, 2) := by decide +kernel
theorem dX0_run_66 : decode cX0_run 66 = .ok (.iastore, 1) := by decide +kernel
theorem dX0_run_67 : decode cX0_run 67 = .ok (.aload_n 0, 1) := by decide +kernel
theorem dX0_run_68 : decode cX0_run 68 = .ok (.dup, 1) := by decide +kernel
theorem dX0_run_69 : decode cX0_run 69 = .ok (.getfield 25, 3) := by decide +kernel
theorem dX0_run_72 : decode cX0_run 72 = .ok (.iconst 1, 1) := by decide +kernel
theorem dX0_run_73 : decode cX0_run 73 = .ok (.iadd, 1) := by decide +kernel
theorem dX0_run_74 : decode cX0_run 74 = .ok (.putfield 25, 3) := by decide +kernel
theorem dX0_run_77 : decode cX0_run 77 = .ok (.iload 8, 2) := by decide +kernel
theorem dX0_run_79 : decode cX0_run 79 = .ok (.lookupswitch 327 #[(1, 121), (2, 128), (10, 154), (11, 169), (20, 176), (30, 189), (40, 201), (41, 214), (50, 227), (60, 240), (61, 264), (70, 277), (80, 290), (81, 314)], 121) := by decide +kernel
theorem dX0_run_200 : decode cX0_run 200 = .ok (.iload_n 3, 1) := by decide +kernel
theorem dX0_run_201 : decode cX0_run 201 = .ok (.aload_n 0, 1) := by decide +kernel
theorem dX0_run_202 : decode cX0_run 202 = .ok (.getfield 32, 3) := by decide +kernel
theorem dX0_run_205 : decode cX0_run 205 = .ok (.iadd, 1) := by decide +kernel
theorem dX0_run_206 : decode cX0_run 206 = .ok (.ireturn, 1) := by decide +kernel
theorem dX0_run_207 : decode cX0_run 207 = .ok (.aload_n 0, 1) := by decide +kernel
theorem dX0_run_208 : decode cX0_run 208 = .ok (.iconst 1, 1) := by decide +kernel
theorem dX0_run_209 : decode cX0_run 209 = .ok (.aload_n 0, 1) := by decide +kernel
theorem dX0_run_210 : decode cX0_run 210 = .ok (.getfield 35, 3) := by decide +kernel
theorem dX0_run_213 : decode cX0_run 213 = .ok (.iload_n 3, 1) := by decide +kernel
theorem dX0_run_214 : decode cX0_run 214 = .ok (.iload 7, 2) := by decide +kernel
theorem dX0_run_216 : decode cX0_run 216 = .ok (.invokevirtual 38, 3) := by decide +kernel
theorem dX0_run_219 : decode cX0_run 219 = .ok (.aload_n 0, 1) := by decide +kernel
theorem dX0_run_220 : decode cX0_run 220 = .ok (.iconst 2, 1) := by decide +kernel
theorem dX0_run_221 : decode cX0_run 221 = .ok (.aload_n 0, 1) := by decide +kernel
theorem dX0_run_222 : decode cX0_run 222 = .ok (.getfield 35, 3) := by decide +kernel
theorem dX0_run_225 : decode cX0_run 225 = .ok (.iconst 1, 1) := by decide +kernel
theorem dX0_run_226 : decode cX0_run 226 = .ok (.iload 7, 2) := by decide +kernel
theorem dX0_run_228 : decode cX0_run 228 = .ok (.invokevirtual 38, 3) := by decide +kernel
theorem dX0_run_231 : decode cX0_run 231 = .ok (.isub, 1) := by decide +kernel
theorem dX0_run_232 : decode cX0_run 232 = .ok (.ireturn, 1) := by decide +kernel
theorem dX0_run_233 : decode cX0_run 233 = .ok (.aload_n 0, 1) := by decide +kernel
theorem dX0_run_234 : decode cX0_run 234 = .ok (.iconst 0, 1) := by decide +kernel
theorem dX0_run_235 : decode cX0_run 235 = .ok (.aload_n 0, 1) := by decide +kernel
theorem dX0_run_236 : decode cX0_run 236 = .ok (.getfield 35, 3) := by decide +kernel
theorem dX0_run_239 : decode cX0_run 239 = .ok (.iload_n 3, 1) := by decide +kernel
theorem dX0_run_240 : decode cX0_run 240 = .ok (.iload 7, 2) := by decide +kernel
theorem dX0_run_242 : decode cX0_run 242 = .ok (.invokevirtual 38, 3) := by decide +kernel
theorem dX0_run_245 : decode cX0_run 245 = .ok (.iconst 2, 1) := by decide +kernel
theorem dX0_run_246 : decode cX0_run 246 = .ok (.imul, 1) := by decide +kernel
theorem dX0_run_247 : decode cX0_run 247 = .ok (.ireturn, 1) := by decide +kernel
theorem dX0_run_248 : decode cX0_run 248 = .ok (.iload_n 3, 1) := by decide +kernel
theorem dX0_run_249 : decode cX0_run 249 = .ok (.aload_n 0, 1) := by decide +kernel
theorem dX0_run_250 : decode cX0_run 250 = .ok (.getfield 32, 3) := by decide +kernel
theorem dX0_run_253 : decode cX0_run 253 = .ok (.ixor, 1) := by decide +kernel
theorem dX0_run_254 : decode cX0_run 254 = .ok (.ireturn, 1) := by decide +kernel
theorem dX0_run_255 : decode cX0_run 255 = .ok (.aload_n 0, 1) := by decide +kernel
theorem dX0_run_256 : decode cX0_run 256 = .ok (.iconst 0, 1) := by decide +kernel
theorem dX0_run_257 : decode cX0_run 257 = .ok (.iload 6, 2) := by decide +kernel
theorem dX0_run_259 : decode cX0_run 259 = .ok (.iload_n 3, 1) := by decide +kernel
theorem dX0_run_260 : decode cX0_run 260 = .ok (.iload 7, 2) := by decide +kernel
theorem dX0_run_262 : decode cX0_run 262 = .ok (.invokevirtual 38, 3) := by decide +kernel
theorem dX0_run_265 : decode cX0_run 265 = .ok (.iconst 3, 1) := by decide +kernel
theorem dX0_run_266 : decode cX0_run 266 = .ok (.iadd, 1) := by decide +kernel
theorem dX0_run_267 : decode cX0_run 267 = .ok (.ireturn, 1) := by decide +kernel
theorem dX0_run_268 : decode cX0_run 268 = .ok (.aload_n 0, 1) := by decide +kernel
theorem dX0_run_269 : decode cX0_run 269 = .ok (.iconst 1, 1) := by decide +kernel
theorem dX0_run_270 : decode cX0_run 270 = .ok (.iload 6, 2) := by decide +kernel
theorem dX0_run_272 : decode cX0_run 272 = .ok (.iload_n 3, 1) := by decide +kernel
theorem dX0_run_273 : decode cX0_run 273 = .ok (.iload 7, 2) := by decide +kernel
theorem dX0_run_275 : decode cX0_run 275 = .ok (.invokevirtual 38, 3) := by decide +kernel
theorem dX0_run_278 : decode cX0_run 278 = .ok (.ineg, 1) := by decide +kernel
theorem dX0_run_279 : decode cX0_run 279 = .ok (.ireturn, 1) := by decide +kernel
theorem dX0_run_280 : decode cX0_run 280 = .ok (.aload_n 0, 1) := by decide +kernel
theorem dX0_run_281 : decode cX0_run 281 = .ok (.iconst 2, 1) := by decide +kernel
theorem dX0_run_282 : decode cX0_run 282 = .ok (.iload 6, 2) := by decide +kernel
theorem dX0_run_284 : decode cX0_run 284 = .ok (.iload_n 3, 1) := by decide +kernel
theorem dX0_run_285 : decode cX0_run 285 = .ok (.iload 7, 2) := by decide +kernel
theorem dX0_run_287 : decode cX0_run 287 = .ok (.invokevirtual 38, 3) := by decide +kernel
theorem dX0_run_290 : decode cX0_run 290 = .ok (.iconst 3, 1) := by decide +kernel
theorem dX0_run_291 : decode cX0_run 291 = .ok (.imul, 1) := by decide +kernel
theorem dX0_run_292 : decode cX0_run 292 = .ok (.ireturn, 1) := by decide +kernel
theorem dX0_run_293 : decode cX0_run 293 = .ok (.aload_n 0, 1) := by decide +kernel
theorem dX0_run_294 : decode cX0_run 294 = .ok (.iconst 1, 1) := by decide +kernel
theorem dX0_run_295 : decode cX0_run 295 = .ok (.iload 6, 2) := by decide +kernel
theorem dX0_run_297 : decode cX0_run 297 = .ok (.iload_n 3, 1) := by decide +kernel
theorem dX0_run_298 : decode cX0_run 298 = .ok (.iconst 1, 1) := by decide +kernel
theorem dX0_run_299 : decode cX0_run 299 = .ok (.iadd, 1) := by decide +kernel
theorem dX0_run_300 : decode cX0_run 300 = .ok (.iload 7, 2) := by decide +kernel
theorem dX0_run_302 : decode cX0_run 302 = .ok (.invokevirtual 38, 3) := by decide +kernel
theorem dX0_run_305 : decode cX0_run 305 = .ok (.ireturn, 1) := by decide +kernel
theorem dX0_run_306 : decode cX0_run 306 = .ok (.aload_n 0, 1) := by decide +kernel
theorem dX0_run_307 : decode cX0_run 307 = .ok (.iconst 3, 1) := by decide +kernel
theorem dX0_run_308 : decode cX0_run 308 = .ok (.iload 6, 2) := by decide +kernel
theorem dX0_run_310 : decode cX0_run 310 = .ok (.iload_n 3, 1) := by decide +kernel
theorem dX0_run_311 : decode cX0_run 311 = .ok (.iload 7, 2) := by decide +kernel
theorem dX0_run_313 : decode cX0_run 313 = .ok (.invokevirtual 38, 3) := by decide +kernel
theorem dX0_run_316 : decode cX0_run 316 = .ok (.iconst 5, 1) := by decide +kernel
theorem dX0_run_317 : decode cX0_run 317 = .ok (.ixor, 1) := by decide +kernel
theorem dX0_run_318 : decode cX0_run 318 = .ok (.ireturn, 1) := by decide +kernel
theorem dX0_run_319 : decode cX0_run 319 = .ok (.aload_n 0, 1) := by decide +kernel
theorem dX0_run_320 : decode cX0_run 320 = .ok (.iconst 2, 1) := by decide +kernel
theorem dX0_run_321 : decode cX0_run 321 = .ok (.iload 6, 2) := by decide +kernel
theorem dX0_run_323 : decode cX0_run 323 = .ok (.iload_n 3, 1) := by decide +kernel
theorem dX0_run_324 : decode cX0_run 324 = .ok (.iload 7, 2) := by decide +kernel
theorem dX0_run_326 : decode cX0_run 326 = .ok (.invokevirtual 38, 3) := by decide +kernel
theorem dX0_run_329 : decode cX0_run 329 = .ok (.aload_n 0, 1) := by decide +kernel
theorem dX0_run_330 : decode cX0_run 330 = .ok (.iconst 0, 1) := by decide +kernel
theorem dX0_run_331 : decode cX0_run 331 = .ok (.aload_n 0, 1) := by decide +kernel
theorem dX0_run_332 : decode cX0_run 332 = .ok (.getfield 35, 3) := by decide +kernel
theorem dX0_run_335 : decode cX0_run 335 = .ok (.iconst 2, 1) := by decide +kernel
theorem dX0_run_336 : decode cX0_run 336 = .ok (.iload 7, 2) := by decide +kernel
theorem dX0_run_338 : decode cX0_run 338 = .ok (.invokevirtual 38, 3) := by decide +kernel
theorem dX0_run_341 : decode cX0_run 341 = .ok (.isub, 1) := by decide +kernel
theorem dX0_run_342 : decode cX0_run 342 = .ok (.ireturn, 1) := by decide +kernel
theorem dX0_run_343 : decode cX0_run 343 = .ok (.aload_n 0, 1) := by decide +kernel
theorem dX0_run_344 : decode cX0_run 344 = .ok (.iconst 3, 1) := by decide +kernel
theorem dX0_run_345 : decode cX0_run 345 = .ok (.iload 6, 2) := by decide +kernel
theorem dX0_run_347 : decode cX0_run 347 = .ok (.iload_n 3, 1) := by decide +kernel
theorem dX0_run_348 : decode cX0_run 348 = .ok (.iload 7, 2) := by decide +kernel
theorem dX0_run_350 : decode cX0_run 350 = .ok (.invokevirtual 38, 3) := by decide +kernel
theorem dX0_run_353 : decode cX0_run 353 = .ok (.iconst 1, 1) := by decide +kernel
theorem dX0_run_354 : decode cX0_run 354 = .ok (.iadd, 1) := by decide +kernel
theorem dX0_run_355 : decode cX0_run 355 = .ok (.ireturn, 1) := by decide +kernel
theorem dX0_run_356 : decode cX0_run 356 = .ok (.aload_n 0, 1) := by decide +kernel
theorem dX0_run_357 : decode cX0_run 357 = .ok (.iconst 0, 1) := by decide +kernel
theorem dX0_run_358 : decode cX0_run 358 = .ok (.iload 6, 2) := by decide +kernel
theorem dX0_run_360 : decode cX0_run 360 = .ok (.iload_n 3, 1) := by decide +kernel
theorem dX0_run_361 : decode cX0_run 361 = .ok (.iload 7, 2) := by decide +kernel
theorem dX0_run_363 : decode cX0_run 363 = .ok (.invokevirtual 38, 3) := by decide +kernel
theorem dX0_run_366 : decode cX0_run 366 = .ok (.iconst 2, 1) := by decide +kernel
theorem dX0_run_367 : decode cX0_run 367 = .ok (.imul, 1) := by decide +kernel
theorem dX0_run_368 : decode cX0_run 368 = .ok (.ireturn, 1) := by decide +kernel
theorem dX0_run_369 : decode cX0_run 369 = .ok (.aload_n 0, 1) := by decide +kernel
theorem dX0_run_370 : decode cX0_run 370 = .ok (.iconst 1, 1) := by decide +kernel
theorem dX0_run_371 : decode cX0_run 371 = .ok (.iload 6, 2) := by decide +kernel
theorem dX0_run_373 : decode cX0_run 373 = .ok (.iload_n 3, 1) := by decide +kernel
theorem dX0_run_374 : decode cX0_run 374 = .ok (.iload 7, 2) := by decide +kernel
theorem dX0_run_376 : decode cX0_run 376 = .ok (.invokevirtual 38, 3) := by decide +kernel
theorem dX0_run_379 : decode cX0_run 379 = .ok (.aload_n 0, 1) := by decide +kernel
theorem dX0_run_380 : decode cX0_run 380 = .ok (.iconst 2, 1) := by decide +kernel
theorem dX0_run_381 : decode cX0_run 381 = .ok (.aload_n 0, 1) := by decide +kernel
theorem dX0_run_382 : decode cX0_run 382 = .ok (.getfield 35, 3) := by decide +kernel
theorem dX0_run_385 : decode cX0_run 385 = .ok (.iconst 2, 1) := by decide +kernel
theorem dX0_run_386 : decode cX0_run 386 = .ok (.iload 7, 2) := by decide +kernel
theorem dX0_run_388 : decode cX0_run 388 = .ok (.invokevirtual 38, 3) := by decide +kernel
theorem dX0_run_391 : decode cX0_run 391 = .ok (.iadd, 1) := by decide +kernel
theorem dX0_run_392 : decode cX0_run 392 = .ok (.ireturn, 1) := by decide +kernel
theorem dX0_run_393 : decode cX0_run 393 = .ok (.aload_n 0, 1) := by decide +kernel
theorem dX0_run_394 : decode cX0_run 394 = .ok (.iconst 0, 1) := by decide +kernel
theorem dX0_run_395 : decode cX0_run 395 = .ok (.iload 6, 2) := by decide +kernel
theorem dX0_run_397 : decode cX0_run 397 = .ok (.iload_n 3, 1) := by decide +kernel
theorem dX0_run_398 : decode cX0_run 398 = .ok (.iload 7, 2) := by decide +kernel
theorem dX0_run_400 : decode cX0_run 400 = .ok (.invokevirtual 38, 3) := by decide +kernel
theorem dX0_run_403 : decode cX0_run 403 = .ok (.iconst 1, 1) := by decide +kernel
theorem dX0_run_404 : decode cX0_run 404 = .ok (.isub, 1) := by decide +kernel
theorem dX0_run_405 : decode cX0_run 405 = .ok (.ireturn, 1) := by decide +kernel
theorem dX0_run_406 : decode cX0_run 406 = .ok (.iconst 0, 1) := by decide +kernel
theorem dX0_run_407 : decode cX0_run 407 = .ok (.ireturn, 1) := by decide +kernel
