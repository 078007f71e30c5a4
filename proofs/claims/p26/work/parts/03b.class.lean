theorem dX0_init_0 : decode cX0_init 0 = .ok (.aload_n 0, 1) := by decide +kernel
theorem dX0_init_1 : decode cX0_init 1 = .ok (.invokespecial 1, 3) := by decide +kernel
theorem dX0_init_4 : decode cX0_init 4 = .ok (.aload_n 0, 1) := by decide +kernel
theorem dX0_init_5 : decode cX0_init 5 = .ok (.iload_n 1, 1) := by decide +kernel
theorem dX0_init_6 : decode cX0_init 6 = .ok (.ifCond .ge 7, 3) := by decide +kernel
theorem dX0_init_9 : decode cX0_init 9 = .ok (.iconst 0, 1) := by decide +kernel
theorem dX0_init_10 : decode cX0_init 10 = .ok (.goto 4, 3) := by decide +kernel
theorem dX0_init_13 : decode cX0_init 13 = .ok (.iload_n 1, 1) := by decide +kernel
theorem dX0_init_14 : decode cX0_init 14 = .ok (.newarray .int, 2) := by decide +kernel
theorem dX0_init_16 : decode cX0_init 16 = .ok (.putfield 7, 3) := by decide +kernel
theorem dX0_init_19 : decode cX0_init 19 = .ok (.return_, 1) := by decide +kernel
theorem dX0_size_0 : decode cX0_size 0 = .ok (.aload_n 0, 1) := by decide +kernel
theorem dX0_size_1 : decode cX0_size 1 = .ok (.getfield 13, 3) := by decide +kernel
theorem dX0_size_4 : decode cX0_size 4 = .ok (.ireturn, 1) := by decide +kernel
theorem dX0_room_0 : decode cX0_room 0 = .ok (.aload_n 0, 1) := by decide +kernel
theorem dX0_room_1 : decode cX0_room 1 = .ok (.getfield 7, 3) := by decide +kernel
theorem dX0_room_4 : decode cX0_room 4 = .ok (.arraylength, 1) := by decide +kernel
theorem dX0_room_5 : decode cX0_room 5 = .ok (.aload_n 0, 1) := by decide +kernel
theorem dX0_room_6 : decode cX0_room 6 = .ok (.getfield 13, 3) := by decide +kernel
theorem dX0_room_9 : decode cX0_room 9 = .ok (.isub, 1) := by decide +kernel
theorem dX0_room_10 : decode cX0_room 10 = .ok (.ireturn, 1) := by decide +kernel
theorem dX0_has_0 : decode cX0_has 0 = .ok (.iload_n 1, 1) := by decide +kernel
theorem dX0_has_1 : decode cX0_has 1 = .ok (.ifCond .lt 24, 3) := by decide +kernel
theorem dX0_has_4 : decode cX0_has 4 = .ok (.iload_n 1, 1) := by decide +kernel
theorem dX0_has_5 : decode cX0_has 5 = .ok (.aload_n 0, 1) := by decide +kernel
theorem dX0_has_6 : decode cX0_has 6 = .ok (.getfield 13, 3) := by decide +kernel
theorem dX0_has_9 : decode cX0_has 9 = .ok (.if_icmp .ge 16, 3) := by decide +kernel
theorem dX0_has_12 : decode cX0_has 12 = .ok (.iload_n 1, 1) := by decide +kernel
theorem dX0_has_13 : decode cX0_has 13 = .ok (.aload_n 0, 1) := by decide +kernel
theorem dX0_has_14 : decode cX0_has 14 = .ok (.getfield 7, 3) := by decide +kernel
theorem dX0_has_17 : decode cX0_has 17 = .ok (.arraylength, 1) := by decide +kernel
theorem dX0_has_18 : decode cX0_has 18 = .ok (.if_icmp .ge 7, 3) := by decide +kernel
theorem dX0_has_21 : decode cX0_has 21 = .ok (.iconst 1, 1) := by decide +kernel
theorem dX0_has_22 : decode cX0_has 22 = .ok (.goto 4, 3) := by decide +kernel
theorem dX0_has_25 : decode cX0_has 25 = .ok (.iconst 0, 1) := by decide +kernel
theorem dX0_has_26 : decode cX0_has 26 = .ok (.ireturn, 1) := by decide +kernel
set_option maxRecDepth 20000 in
theorem ggX0_at_X0_has : GoodIn wsX0_at wsX0_has := goodIn_r _ [6, 7, 1, 8, 9] (by decide +kernel) (by decide +kernel)
set_option maxRecDepth 20000 in
theorem gX0_at_X0_has : GoodIn wsX0_at (wsV RX0 17 RX0 yX0_has wsX0_has) := goodIn_app (goodIn_of _ (by decide +kernel)) ggX0_at_X0_has
theorem dX0_at_0 : decode cX0_at 0 = .ok (.aload_n 0, 1) := by decide +kernel
theorem dX0_at_1 : decode cX0_at 1 = .ok (.iload_n 1, 1) := by decide +kernel
theorem dX0_at_2 : decode cX0_at 2 = .ok (.invokevirtual 17, 3) := by decide +kernel
theorem dX0_at_5 : decode cX0_at 5 = .ok (.ifCond .eq 12, 3) := by decide +kernel
theorem dX0_at_8 : decode cX0_at 8 = .ok (.aload_n 0, 1) := by decide +kernel
theorem dX0_at_9 : decode cX0_at 9 = .ok (.getfield 7, 3) := by decide +kernel
theorem dX0_at_12 : decode cX0_at 12 = .ok (.iload_n 1, 1) := by decide +kernel
theorem dX0_at_13 : decode cX0_at 13 = .ok (.iaload, 1) := by decide +kernel
theorem dX0_at_14 : decode cX0_at 14 = .ok (.goto 4, 3) := by decide +kernel
theorem dX0_at_17 : decode cX0_at 17 = .ok (.iconst 0, 1) := by decide +kernel
theorem dX0_at_18 : decode cX0_at 18 = .ok (.ireturn, 1) := by decide +kernel
set_option maxRecDepth 20000 in
theorem ggX0_change_X0_has : GoodIn wsX0_change wsX0_has := goodIn_r _ [6, 7, 1, 8, 9] (by decide +kernel) (by decide +kernel)
set_option maxRecDepth 20000 in
theorem gX0_change_X0_has : GoodIn wsX0_change (wsV RX0 17 RX0 yX0_has wsX0_has) := goodIn_app (goodIn_of _ (by decide +kernel)) ggX0_change_X0_has
theorem dX0_change_0 : decode cX0_change 0 = .ok (.aload_n 0, 1) := by decide +kernel
theorem dX0_change_1 : decode cX0_change 1 = .ok (.iload_n 1, 1) := by decide +kernel
theorem dX0_change_2 : decode cX0_change 2 = .ok (.invokevirtual 17, 3) := by decide +kernel
theorem dX0_change_5 : decode cX0_change 5 = .ok (.ifCond .eq 10, 3) := by decide +kernel
theorem dX0_change_8 : decode cX0_change 8 = .ok (.aload_n 0, 1) := by decide +kernel
theorem dX0_change_9 : decode cX0_change 9 = .ok (.getfield 7, 3) := by decide +kernel
theorem dX0_change_12 : decode cX0_change 12 = .ok (.iload_n 1, 1) := by decide +kernel
theorem dX0_change_13 : decode cX0_change 13 = .ok (.iload_n 2, 1) := by decide +kernel
theorem dX0_change_14 : decode cX0_change 14 = .ok (.iastore, 1) := by decide +kernel
theorem dX0_change_15 : decode cX0_change 15 = .ok (.return_, 1) := by decide +kernel
theorem dX0_add_0 : decode cX0_add 0 = .ok (.aload_n 0, 1) := by decide +kernel
theorem dX0_add_1 : decode cX0_add 1 = .ok (.getfield 13, 3) := by decide +kernel
theorem dX0_add_4 : decode cX0_add 4 = .ok (.ifCond .lt 15, 3) := by decide +kernel
theorem dX0_add_7 : decode cX0_add 7 = .ok (.aload_n 0, 1) := by decide +kernel
theorem dX0_add_8 : decode cX0_add 8 = .ok (.getfield 13, 3) := by decide +kernel
theorem dX0_add_11 : decode cX0_add 11 = .ok (.aload_n 0, 1) := by decide +kernel
theorem dX0_add_12 : decode cX0_add 12 = .ok (.getfield 7, 3) := by decide +kernel
theorem dX0_add_15 : decode cX0_add 15 = .ok (.arraylength, 1) := by decide +kernel
theorem dX0_add_16 : decode cX0_add 16 = .ok (.if_icmp .lt 5, 3) := by decide +kernel
theorem dX0_add_19 : decode cX0_add 19 = .ok (.iconst 0, 1) := by decide +kernel
theorem dX0_add_20 : decode cX0_add 20 = .ok (.ireturn, 1) := by decide +kernel
theorem dX0_add_21 : decode cX0_add 21 = .ok (.aload_n 0, 1) := by decide +kernel
theorem dX0_add_22 : decode cX0_add 22 = .ok (.getfield 7, 3) := by decide +kernel
theorem dX0_add_25 : decode cX0_add 25 = .ok (.aload_n 0, 1) := by decide +kernel
theorem dX0_add_26 : decode cX0_add 26 = .ok (.getfield 13, 3) := by decide +kernel
theorem dX0_add_29 : decode cX0_add 29 = .ok (.iload_n 1, 1) := by decide +kernel
theorem dX0_add_30 : decode cX0_add 30 = .ok (.iastore, 1) := by decide +kernel
theorem dX0_add_31 : decode cX0_add 31 = .ok (.aload_n 0, 1) := by decide +kernel
theorem dX0_add_32 : decode cX0_add 32 = .ok (.dup, 1) := by decide +kernel
theorem dX0_add_33 : decode cX0_add 33 = .ok (.getfield 13, 3) := by decide +kernel
theorem dX0_add_36 : decode cX0_add 36 = .ok (.iconst 1, 1) := by decide +kernel
theorem dX0_add_37 : decode cX0_add 37 = .ok (.iadd, 1) := by decide +kernel
theorem dX0_add_38 : decode cX0_add 38 = .ok (.putfield 13, 3) := by decide +kernel
theorem dX0_add_41 : decode cX0_add 41 = .ok (.iconst 1, 1) := by decide +kernel
theorem dX0_add_42 : decode cX0_add 42 = .ok (.ireturn, 1) := by decide +kernel
theorem dX0_clear_0 : decode cX0_clear 0 = .ok (.aload_n 0, 1) := by decide +kernel
theorem dX0_clear_1 : decode cX0_clear 1 = .ok (.iconst 0, 1) := by decide +kernel
theorem dX0_clear_2 : decode cX0_clear 2 = .ok (.putfield 13, 3) := by decide +kernel
theorem dX0_clear_5 : decode cX0_clear 5 = .ok (.return_, 1) := by decide +kernel
set_option maxRecDepth 20000 in
theorem ggX1_init_X0_init : GoodIn wsX1_init wsX0_init := goodIn_r _ [11, 12, 2, 3, 13, 14, 18, 19] (by decide +kernel) (by decide +kernel)
set_option maxRecDepth 20000 in
theorem gX1_init_X0_init : GoodIn wsX1_init (wsX0_init) := ggX1_init_X0_init
theorem dX1_init_0 : decode cX1_init 0 = .ok (.aload_n 0, 1) := by decide +kernel
theorem dX1_init_1 : decode cX1_init 1 = .ok (.invokespecial 3, 3) := by decide +kernel
theorem dX1_init_4 : decode cX1_init 4 = .ok (.aload_n 0, 1) := by decide +kernel
theorem dX1_init_5 : decode cX1_init 5 = .ok (.bipush 20, 2) := by decide +kernel
theorem dX1_init_7 : decode cX1_init 7 = .ok (.anewarray 9, 3) := by decide +kernel
theorem dX1_init_10 : decode cX1_init 10 = .ok (.putfield 11, 3) := by decide +kernel
theorem dX1_init_13 : decode cX1_init 13 = .ok (.aload_n 0, 1) := by decide +kernel
theorem dX1_init_14 : decode cX1_init 14 = .ok (.iconst 1, 1) := by decide +kernel
theorem dX1_init_15 : decode cX1_init 15 = .ok (.putfield 17, 3) := by decide +kernel
theorem dX1_init_18 : decode cX1_init 18 = .ok (.iconst 0, 1) := by decide +kernel
theorem dX1_init_19 : decode cX1_init 19 = .ok (.istore_n 1, 1) := by decide +kernel
theorem dX1_init_20 : decode cX1_init 20 = .ok (.iload_n 1, 1) := by decide +kernel
theorem dX1_init_21 : decode cX1_init 21 = .ok (.aload_n 0, 1) := by decide +kernel
theorem dX1_init_22 : decode cX1_init 22 = .ok (.getfield 11, 3) := by decide +kernel
theorem dX1_init_25 : decode cX1_init 25 = .ok (.arraylength, 1) := by decide +kernel
theorem dX1_init_26 : decode cX1_init 26 = .ok (.if_icmp .ge 24, 3) := by decide +kernel
theorem dX1_init_29 : decode cX1_init 29 = .ok (.aload_n 0, 1) := by decide +kernel
theorem dX1_init_30 : decode cX1_init 30 = .ok (.getfield 11, 3) := by decide +kernel
theorem dX1_init_33 : decode cX1_init 33 = .ok (.iload_n 1, 1) := by decide +kernel
theorem dX1_init_34 : decode cX1_init 34 = .ok (.new 9, 3) := by decide +kernel
theorem dX1_init_37 : decode cX1_init 37 = .ok (.dup, 1) := by decide +kernel
theorem dX1_init_38 : decode cX1_init 38 = .ok (.bipush 40, 2) := by decide +kernel
theorem dX1_init_40 : decode cX1_init 40 = .ok (.invokespecial 21, 3) := by decide +kernel
theorem dX1_init_43 : decode cX1_init 43 = .ok (.aastore, 1) := by decide +kernel
theorem dX1_init_44 : decode cX1_init 44 = .ok (.iinc 1 1, 3) := by decide +kernel
theorem dX1_init_47 : decode cX1_init 47 = .ok (.goto (-27), 3) := by decide +kernel
theorem dX1_init_50 : decode cX1_init 50 = .ok (.return_, 1) := by decide +kernel
theorem dX1_lines_0 : decode cX1_lines 0 = .ok (.aload_n 0, 1) := by decide +kernel
theorem dX1_lines_1 : decode cX1_lines 1 = .ok (.getfield 17, 3) := by decide +kernel
theorem dX1_lines_4 : decode cX1_lines 4 = .ok (.ireturn, 1) := by decide +kernel
theorem dX1_row_0 : decode cX1_row 0 = .ok (.iload_n 1, 1) := by decide +kernel
theorem dX1_row_1 : decode cX1_row 1 = .ok (.ifCond .lt 11, 3) := by decide +kernel
theorem dX1_row_4 : decode cX1_row 4 = .ok (.iload_n 1, 1) := by decide +kernel
theorem dX1_row_5 : decode cX1_row 5 = .ok (.aload_n 0, 1) := by decide +kernel
theorem dX1_row_6 : decode cX1_row 6 = .ok (.getfield 17, 3) := by decide +kernel
theorem dX1_row_9 : decode cX1_row 9 = .ok (.if_icmp .lt 5, 3) := by decide +kernel
theorem dX1_row_12 : decode cX1_row 12 = .ok (.aconst_null, 1) := by decide +kernel
theorem dX1_row_13 : decode cX1_row 13 = .ok (.areturn, 1) := by decide +kernel
theorem dX1_row_14 : decode cX1_row 14 = .ok (.aload_n 0, 1) := by decide +kernel
theorem dX1_row_15 : decode cX1_row 15 = .ok (.getfield 24, 3) := by decide +kernel
theorem dX1_row_18 : decode cX1_row 18 = .ok (.iload_n 1, 1) := by decide +kernel
theorem dX1_row_19 : decode cX1_row 19 = .ok (.iadd, 1) := by decide +kernel
theorem dX1_row_20 : decode cX1_row 20 = .ok (.bipush 20, 2) := by decide +kernel
theorem dX1_row_22 : decode cX1_row 22 = .ok (.irem, 1) := by decide +kernel
theorem dX1_row_23 : decode cX1_row 23 = .ok (.istore_n 2, 1) := by decide +kernel
theorem dX1_row_24 : decode cX1_row 24 = .ok (.iload_n 2, 1) := by decide +kernel
theorem dX1_row_25 : decode cX1_row 25 = .ok (.ifCond .lt 21, 3) := by decide +kernel
theorem dX1_row_28 : decode cX1_row 28 = .ok (.iload_n 2, 1) := by decide +kernel
theorem dX1_row_29 : decode cX1_row 29 = .ok (.aload_n 0, 1) := by decide +kernel
theorem dX1_row_30 : decode cX1_row 30 = .ok (.getfield 11, 3) := by decide +kernel
theorem dX1_row_33 : decode cX1_row 33 = .ok (.arraylength, 1) := by decide +kernel
theorem dX1_row_34 : decode cX1_row 34 = .ok (.if_icmp .ge 12, 3) := by decide +kernel
theorem dX1_row_37 : decode cX1_row 37 = .ok (.aload_n 0, 1) := by decide +kernel
theorem dX1_row_38 : decode cX1_row 38 = .ok (.getfield 11, 3) := by decide +kernel
theorem dX1_row_41 : decode cX1_row 41 = .ok (.iload_n 2, 1) := by decide +kernel
theorem dX1_row_42 : decode cX1_row 42 = .ok (.aaload, 1) := by decide +kernel
theorem dX1_row_43 : decode cX1_row 43 = .ok (.goto 4, 3) := by decide +kernel
theorem dX1_row_46 : decode cX1_row 46 = .ok (.aconst_null, 1) := by decide +kernel
theorem dX1_row_47 : decode cX1_row 47 = .ok (.areturn, 1) := by decide +kernel
set_option maxRecDepth 20000 in
theorem ggX1_add_X1_row : GoodIn wsX1_add wsX1_row := goodIn_r _ [6, 1, 7, 8, 16, 17, 18] (by decide +kernel) (by decide +kernel)
set_option maxRecDepth 20000 in
theorem gX1_add_X1_row : GoodIn wsX1_add (wsV RX1 27 RX1 yX1_row wsX1_row) := goodIn_app (goodIn_of _ (by decide +kernel)) ggX1_add_X1_row
set_option maxRecDepth 20000 in
theorem ggX1_add_X0_add : GoodIn wsX1_add wsX0_add := goodIn_r _ [13, 14, 15, 19, 20] (by decide +kernel) (by decide +kernel)
set_option maxRecDepth 20000 in
theorem gX1_add_X0_add : GoodIn wsX1_add (wsV RX1 31 RX0 yX0_add wsX0_add) := goodIn_app (goodIn_of _ (by decide +kernel)) ggX1_add_X0_add
theorem dX1_add_0 : decode cX1_add 0 = .ok (.aload_n 0, 1) := by decide +kernel
theorem dX1_add_1 : decode cX1_add 1 = .ok (.aload_n 0, 1) := by decide +kernel
theorem dX1_add_2 : decode cX1_add 2 = .ok (.getfield 17, 3) := by decide +kernel
theorem dX1_add_5 : decode cX1_add 5 = .ok (.iconst 1, 1) := by decide +kernel
theorem dX1_add_6 : decode cX1_add 6 = .ok (.isub, 1) := by decide +kernel
theorem dX1_add_7 : decode cX1_add 7 = .ok (.invokevirtual 27, 3) := by decide +kernel
theorem dX1_add_10 : decode cX1_add 10 = .ok (.astore_n 2, 1) := by decide +kernel
theorem dX1_add_11 : decode cX1_add 11 = .ok (.aload_n 2, 1) := by decide +kernel
theorem dX1_add_12 : decode cX1_add 12 = .ok (.ifnull 15, 3) := by decide +kernel
theorem dX1_add_15 : decode cX1_add 15 = .ok (.aload_n 2, 1) := by decide +kernel
theorem dX1_add_16 : decode cX1_add 16 = .ok (.iload_n 1, 1) := by decide +kernel
theorem dX1_add_17 : decode cX1_add 17 = .ok (.invokevirtual 31, 3) := by decide +kernel
theorem dX1_add_20 : decode cX1_add 20 = .ok (.ifCond .eq 7, 3) := by decide +kernel
theorem dX1_add_23 : decode cX1_add 23 = .ok (.iconst 1, 1) := by decide +kernel
theorem dX1_add_24 : decode cX1_add 24 = .ok (.goto 4, 3) := by decide +kernel
theorem dX1_add_27 : decode cX1_add 27 = .ok (.iconst 0, 1) := by decide +kernel
theorem dX1_add_28 : decode cX1_add 28 = .ok (.ireturn, 1) := by decide +kernel
set_option maxRecDepth 20000 in
theorem ggX1_beginLine_X1_row : GoodIn wsX1_beginLine wsX1_row := goodIn_r _ [7, 1, 2, 8, 15, 16, 17] (by decide +kernel) (by decide +kernel)
set_option maxRecDepth 20000 in
theorem gX1_beginLine_X1_row : GoodIn wsX1_beginLine (wsV RX1 27 RX1 yX1_row wsX1_row) := goodIn_app (goodIn_of _ (by decide +kernel)) ggX1_beginLine_X1_row
set_option maxRecDepth 20000 in
theorem ggX1_beginLine_X0_clear : GoodIn wsX1_beginLine wsX0_clear := goodIn_r _ [13, 14, 18, 19] (by decide +kernel) (by decide +kernel)
set_option maxRecDepth 20000 in
theorem gX1_beginLine_X0_clear : GoodIn wsX1_beginLine (wsV RX1 35 RX0 yX0_clear wsX0_clear) := goodIn_app (goodIn_of _ (by decide +kernel)) ggX1_beginLine_X0_clear
theorem dX1_beginLine_0 : decode cX1_beginLine 0 = .ok (.aload_n 0, 1) := by decide +kernel
theorem dX1_beginLine_1 : decode cX1_beginLine 1 = .ok (.getfield 17, 3) := by decide +kernel
theorem dX1_beginLine_4 : decode cX1_beginLine 4 = .ok (.bipush 20, 2) := by decide +kernel
theorem dX1_beginLine_6 : decode cX1_beginLine 6 = .ok (.if_icmp .ge 16, 3) := by decide +kernel
theorem dX1_beginLine_9 : decode cX1_beginLine 9 = .ok (.aload_n 0, 1) := by decide +kernel
theorem dX1_beginLine_10 : decode cX1_beginLine 10 = .ok (.dup, 1) := by decide +kernel
theorem dX1_beginLine_11 : decode cX1_beginLine 11 = .ok (.getfield 17, 3) := by decide +kernel
theorem dX1_beginLine_14 : decode cX1_beginLine 14 = .ok (.iconst 1, 1) := by decide +kernel
theorem dX1_beginLine_15 : decode cX1_beginLine 15 = .ok (.iadd, 1) := by decide +kernel
theorem dX1_beginLine_16 : decode cX1_beginLine 16 = .ok (.putfield 17, 3) := by decide +kernel
theorem dX1_beginLine_19 : decode cX1_beginLine 19 = .ok (.goto 16, 3) := by decide +kernel
theorem dX1_beginLine_22 : decode cX1_beginLine 22 = .ok (.aload_n 0, 1) := by decide +kernel
theorem dX1_beginLine_23 : decode cX1_beginLine 23 = .ok (.aload_n 0, 1) := by decide +kernel
theorem dX1_beginLine_24 : decode cX1_beginLine 24 = .ok (.getfield 24, 3) := by decide +kernel
theorem dX1_beginLine_27 : decode cX1_beginLine 27 = .ok (.iconst 1, 1) := by decide +kernel
theorem dX1_beginLine_28 : decode cX1_beginLine 28 = .ok (.iadd, 1) := by decide +kernel
theorem dX1_beginLine_29 : decode cX1_beginLine 29 = .ok (.bipush 20, 2) := by decide +kernel
theorem dX1_beginLine_31 : decode cX1_beginLine 31 = .ok (.irem, 1) := by decide +kernel
theorem dX1_beginLine_32 : decode cX1_beginLine 32 = .ok (.putfield 24, 3) := by decide +kernel
theorem dX1_beginLine_35 : decode cX1_beginLine 35 = .ok (.aload_n 0, 1) := by decide +kernel
theorem dX1_beginLine_36 : decode cX1_beginLine 36 = .ok (.aload_n 0, 1) := by decide +kernel
theorem dX1_beginLine_37 : decode cX1_beginLine 37 = .ok (.getfield 17, 3) := by decide +kernel
theorem dX1_beginLine_40 : decode cX1_beginLine 40 = .ok (.iconst 1, 1) := by decide +kernel
theorem dX1_beginLine_41 : decode cX1_beginLine 41 = .ok (.isub, 1) := by decide +kernel
theorem dX1_beginLine_42 : decode cX1_beginLine 42 = .ok (.invokevirtual 27, 3) := by decide +kernel
theorem dX1_beginLine_45 : decode cX1_beginLine 45 = .ok (.astore_n 1, 1) := by decide +kernel
theorem dX1_beginLine_46 : decode cX1_beginLine 46 = .ok (.aload_n 1, 1) := by decide +kernel
theorem dX1_beginLine_47 : decode cX1_beginLine 47 = .ok (.ifnull 7, 3) := by decide +kernel
theorem dX1_beginLine_50 : decode cX1_beginLine 50 = .ok (.aload_n 1, 1) := by decide +kernel
theorem dX1_beginLine_51 : decode cX1_beginLine 51 = .ok (.invokevirtual 35, 3) := by decide +kernel
theorem dX1_beginLine_54 : decode cX1_beginLine 54 = .ok (.return_, 1) := by decide +kernel
set_option maxRecDepth 20000 in
theorem ggX1_characters_X1_row : GoodIn wsX1_characters wsX1_row := goodIn_r _ [6, 1, 7, 8, 15, 16, 17] (by decide +kernel) (by decide +kernel)
set_option maxRecDepth 20000 in
theorem gX1_characters_X1_row : GoodIn wsX1_characters (wsV RX1 27 RX1 yX1_row wsX1_row) := goodIn_app (goodIn_of _ (by decide +kernel)) ggX1_characters_X1_row
set_option maxRecDepth 20000 in
theorem ggX1_characters_X0_size : GoodIn wsX1_characters wsX0_size := goodIn_r _ [13, 14, 18, 19] (by decide +kernel) (by decide +kernel)
set_option maxRecDepth 20000 in
theorem gX1_characters_X0_size : GoodIn wsX1_characters (wsV RX1 38 RX0 yX0_size wsX0_size) := goodIn_app (goodIn_of _ (by decide +kernel)) ggX1_characters_X0_size
theorem dX1_characters_0 : decode cX1_characters 0 = .ok (.iconst 0, 1) := by decide +kernel
theorem dX1_characters_1 : decode cX1_characters 1 = .ok (.istore_n 1, 1) := by decide +kernel
theorem dX1_characters_2 : decode cX1_characters 2 = .ok (.iconst 0, 1) := by decide +kernel
theorem dX1_characters_3 : decode cX1_characters 3 = .ok (.istore_n 2, 1) := by decide +kernel
theorem dX1_characters_4 : decode cX1_characters 4 = .ok (.iload_n 2, 1) := by decide +kernel
theorem dX1_characters_5 : decode cX1_characters 5 = .ok (.aload_n 0, 1) := by decide +kernel
theorem dX1_characters_6 : decode cX1_characters 6 = .ok (.getfield 17, 3) := by decide +kernel
theorem dX1_characters_9 : decode cX1_characters 9 = .ok (.if_icmp .ge 26, 3) := by decide +kernel
theorem dX1_characters_12 : decode cX1_characters 12 = .ok (.aload_n 0, 1) := by decide +kernel
theorem dX1_characters_13 : decode cX1_characters 13 = .ok (.iload_n 2, 1) := by decide +kernel
theorem dX1_characters_14 : decode cX1_characters 14 = .ok (.invokevirtual 27, 3) := by decide +kernel
theorem dX1_characters_17 : decode cX1_characters 17 = .ok (.astore_n 3, 1) := by decide +kernel
theorem dX1_characters_18 : decode cX1_characters 18 = .ok (.aload_n 3, 1) := by decide +kernel
theorem dX1_characters_19 : decode cX1_characters 19 = .ok (.ifnull 10, 3) := by decide +kernel
theorem dX1_characters_22 : decode cX1_characters 22 = .ok (.iload_n 1, 1) := by decide +kernel
theorem dX1_characters_23 : decode cX1_characters 23 = .ok (.aload_n 3, 1) := by decide +kernel
theorem dX1_characters_24 : decode cX1_characters 24 = .ok (.invokevirtual 38, 3) := by decide +kernel
theorem dX1_characters_27 : decode cX1_characters 27 = .ok (.iadd, 1) := by decide +kernel
theorem dX1_characters_28 : decode cX1_characters 28 = .ok (.istore_n 1, 1) := by decide +kernel
theorem dX1_characters_29 : decode cX1_characters 29 = .ok (.iinc 2 1, 3) := by decide +kernel
theorem dX1_characters_32 : decode cX1_characters 32 = .ok (.goto (-28), 3) := by decide +kernel
theorem dX1_characters_35 : decode cX1_characters 35 = .ok (.iload_n 1, 1) := by decide +kernel
theorem dX1_characters_36 : decode cX1_characters 36 = .ok (.ireturn, 1) := by decide +kernel
set_option maxRecDepth 20000 in
theorem ggX2_init_X0_init : GoodIn wsX2_init wsX0_init := goodIn_r _ [11, 12, 2, 3, 13, 14, 20, 21] (by decide +kernel) (by decide +kernel)
set_option maxRecDepth 20000 in
theorem gX2_init_X0_init : GoodIn wsX2_init (wsX0_init) := ggX2_init_X0_init
set_option maxRecDepth 20000 in
theorem ggX2_init_X0_add : GoodIn wsX2_init wsX0_add := goodIn_r _ [18, 19, 14, 20, 21] (by decide +kernel) (by decide +kernel)
set_option maxRecDepth 20000 in
theorem gX2_init_X0_add : GoodIn wsX2_init (wsV RX2 23 RX0 yX0_add wsX0_add) := goodIn_app (goodIn_of _ (by decide +kernel)) ggX2_init_X0_add
theorem dX2_init_0 : decode cX2_init 0 = .ok (.aload_n 0, 1) := by decide +kernel
theorem dX2_init_1 : decode cX2_init 1 = .ok (.invokespecial 3, 3) := by decide +kernel
theorem dX2_init_4 : decode cX2_init 4 = .ok (.aload_n 0, 1) := by decide +kernel
theorem dX2_init_5 : decode cX2_init 5 = .ok (.new 9, 3) := by decide +kernel
theorem dX2_init_8 : decode cX2_init 8 = .ok (.dup, 1) := by decide +kernel
theorem dX2_init_9 : decode cX2_init 9 = .ok (.bipush 16, 2) := by decide +kernel
theorem dX2_init_11 : decode cX2_init 11 = .ok (.invokespecial 11, 3) := by decide +kernel
theorem dX2_init_14 : decode cX2_init 14 = .ok (.putfield 14, 3) := by decide +kernel
theorem dX2_init_17 : decode cX2_init 17 = .ok (.aload_n 0, 1) := by decide +kernel
theorem dX2_init_18 : decode cX2_init 18 = .ok (.new 9, 3) := by decide +kernel
theorem dX2_init_21 : decode cX2_init 21 = .ok (.dup, 1) := by decide +kernel
theorem dX2_init_22 : decode cX2_init 22 = .ok (.bipush 16, 2) := by decide +kernel
theorem dX2_init_24 : decode cX2_init 24 = .ok (.invokespecial 11, 3) := by decide +kernel
theorem dX2_init_27 : decode cX2_init 27 = .ok (.putfield 20, 3) := by decide +kernel
theorem dX2_init_30 : decode cX2_init 30 = .ok (.iconst 0, 1) := by decide +kernel
theorem dX2_init_31 : decode cX2_init 31 = .ok (.istore_n 1, 1) := by decide +kernel
theorem dX2_init_32 : decode cX2_init 32 = .ok (.iload_n 1, 1) := by decide +kernel
theorem dX2_init_33 : decode cX2_init 33 = .ok (.bipush 16, 2) := by decide +kernel
theorem dX2_init_35 : decode cX2_init 35 = .ok (.if_icmp .ge 27, 3) := by decide +kernel
theorem dX2_init_38 : decode cX2_init 38 = .ok (.aload_n 0, 1) := by decide +kernel
theorem dX2_init_39 : decode cX2_init 39 = .ok (.getfield 14, 3) := by decide +kernel
theorem dX2_init_42 : decode cX2_init 42 = .ok (.iconst 0, 1) := by decide +kernel
theorem dX2_init_43 : decode cX2_init 43 = .ok (.invokevirtual 23, 3) := by decide +kernel
theorem dX2_init_46 : decode cX2_init 46 = .ok (.pop, 1) := by decide +kernel
theorem dX2_init_47 : decode cX2_init 47 = .ok (.aload_n 0, 1) := by decide +kernel
theorem dX2_init_48 : decode cX2_init 48 = .ok (.getfield 20, 3) := by decide +kernel
theorem dX2_init_51 : decode cX2_init 51 = .ok (.iconst 0, 1) := by decide +kernel
theorem dX2_init_52 : decode cX2_init 52 = .ok (.invokevirtual 23, 3) := by decide +kernel
theorem dX2_init_55 : decode cX2_init 55 = .ok (.pop, 1) := by decide +kernel
theorem dX2_init_56 : decode cX2_init 56 = .ok (.iinc 1 1, 3) := by decide +kernel
theorem dX2_init_59 : decode cX2_init 59 = .ok (.goto (-27), 3) := by decide +kernel
theorem dX2_init_62 : decode cX2_init 62 = .ok (.return_, 1) := by decide +kernel
theorem dX2_play_0 : decode cX2_play 0 = .ok (.aload_n 0, 1) := by decide +kernel
theorem dX2_play_1 : decode cX2_play 1 = .ok (.getfield 27, 3) := by decide +kernel
theorem dX2_play_4 : decode cX2_play 4 = .ok (.ireturn, 1) := by decide +kernel
theorem dX2_changePlay_0 : decode cX2_changePlay 0 = .ok (.aload_n 0, 1) := by decide +kernel
theorem dX2_changePlay_1 : decode cX2_changePlay 1 = .ok (.iload_n 1, 1) := by decide +kernel
theorem dX2_changePlay_2 : decode cX2_changePlay 2 = .ok (.putfield 27, 3) := by decide +kernel
theorem dX2_changePlay_5 : decode cX2_changePlay 5 = .ok (.return_, 1) := by decide +kernel
set_option maxRecDepth 20000 in
theorem ggX2_lateAt_X0_at : GoodIn wsX2_lateAt wsX0_at := goodIn_r _ [6, 7, 8, 9, 10, 5, 11, 12, 16, 17] (by decide +kernel) (by decide +kernel)
set_option maxRecDepth 20000 in
theorem gX2_lateAt_X0_at : GoodIn wsX2_lateAt (wsV RX2 31 RX0 yX0_at wsX0_at) := goodIn_app (goodIn_of _ (by decide +kernel)) ggX2_lateAt_X0_at
theorem dX2_lateAt_0 : decode cX2_lateAt 0 = .ok (.aload_n 0, 1) := by decide +kernel
theorem dX2_lateAt_1 : decode cX2_lateAt 1 = .ok (.getfield 14, 3) := by decide +kernel
theorem dX2_lateAt_4 : decode cX2_lateAt 4 = .ok (.iload_n 1, 1) := by decide +kernel
theorem dX2_lateAt_5 : decode cX2_lateAt 5 = .ok (.invokevirtual 31, 3) := by decide +kernel
theorem dX2_lateAt_8 : decode cX2_lateAt 8 = .ok (.ireturn, 1) := by decide +kernel
set_option maxRecDepth 20000 in
theorem ggX2_change_X0_change : GoodIn wsX2_change wsX0_change := goodIn_r _ [7, 8, 9, 10, 11, 6, 12, 13, 17, 18] (by decide +kernel) (by decide +kernel)
set_option maxRecDepth 20000 in
theorem gX2_change_X0_change : GoodIn wsX2_change (wsV RX2 35 RX0 yX0_change wsX0_change) := goodIn_app (goodIn_of _ (by decide +kernel)) ggX2_change_X0_change
theorem dX2_change_0 : decode cX2_change 0 = .ok (.aload_n 0, 1) := by decide +kernel
theorem dX2_change_1 : decode cX2_change 1 = .ok (.getfield 14, 3) := by decide +kernel
theorem dX2_change_4 : decode cX2_change 4 = .ok (.iload_n 1, 1) := by decide +kernel
theorem dX2_change_5 : decode cX2_change 5 = .ok (.iload_n 2, 1) := by decide +kernel
theorem dX2_change_6 : decode cX2_change 6 = .ok (.invokevirtual 35, 3) := by decide +kernel
theorem dX2_change_9 : decode cX2_change 9 = .ok (.aload_n 0, 1) := by decide +kernel
theorem dX2_change_10 : decode cX2_change 10 = .ok (.getfield 20, 3) := by decide +kernel
theorem dX2_change_13 : decode cX2_change 13 = .ok (.iload_n 1, 1) := by decide +kernel
theorem dX2_change_14 : decode cX2_change 14 = .ok (.iload_n 3, 1) := by decide +kernel
theorem dX2_change_15 : decode cX2_change 15 = .ok (.invokevirtual 35, 3) := by decide +kernel
theorem dX2_change_18 : decode cX2_change 18 = .ok (.return_, 1) := by decide +kernel
set_option maxRecDepth 20000 in
theorem ggX2_readAs_X0_at : GoodIn wsX2_readAs wsX0_at := goodIn_r _ [8, 9, 10, 11, 12, 7, 13, 14, 18, 19] (by decide +kernel) (by decide +kernel)
set_option maxRecDepth 20000 in
theorem gX2_readAs_X0_at : GoodIn wsX2_readAs (wsV RX2 31 RX0 yX0_at wsX0_at) := goodIn_app (goodIn_of _ (by decide +kernel)) ggX2_readAs_X0_at
theorem dX2_readAs_0 : decode cX2_readAs 0 = .ok (.iload_n 2, 1) := by decide +kernel
theorem dX2_readAs_1 : decode cX2_readAs 1 = .ok (.bipush 16, 2) := by decide +kernel
theorem dX2_readAs_3 : decode cX2_readAs 3 = .ok (.irem, 1) := by decide +kernel
theorem dX2_readAs_4 : decode cX2_readAs 4 = .ok (.istore_n 3, 1) := by decide +kernel
theorem dX2_readAs_5 : decode cX2_readAs 5 = .ok (.iload_n 1, 1) := by decide +kernel
theorem dX2_readAs_6 : decode cX2_readAs 6 = .ok (.aload_n 0, 1) := by decide +kernel
theorem dX2_readAs_7 : decode cX2_readAs 7 = .ok (.getfield 20, 3) := by decide +kernel
theorem dX2_readAs_10 : decode cX2_readAs 10 = .ok (.iload_n 3, 1) := by decide +kernel
theorem dX2_readAs_11 : decode cX2_readAs 11 = .ok (.invokevirtual 31, 3) := by decide +kernel
theorem dX2_readAs_14 : decode cX2_readAs 14 = .ok (.ixor, 1) := by decide +kernel
theorem dX2_readAs_15 : decode cX2_readAs 15 = .ok (.istore 4, 2) := by decide +kernel
theorem dX2_readAs_17 : decode cX2_readAs 17 = .ok (.aload_n 0, 1) := by decide +kernel
theorem dX2_readAs_18 : decode cX2_readAs 18 = .ok (.getfield 14, 3) := by decide +kernel
theorem dX2_readAs_21 : decode cX2_readAs 21 = .ok (.iload_n 3, 1) := by decide +kernel
theorem dX2_readAs_22 : decode cX2_readAs 22 = .ok (.invokevirtual 31, 3) := by decide +kernel
theorem dX2_readAs_25 : decode cX2_readAs 25 = .ok (.istore 5, 2) := by decide +kernel
theorem dX2_readAs_27 : decode cX2_readAs 27 = .ok (.iload 5, 2) := by decide +kernel
theorem dX2_readAs_29 : decode cX2_readAs 29 = .ok (.aload_n 0, 1) := by decide +kernel
theorem dX2_readAs_30 : decode cX2_readAs 30 = .ok (.getfield 27, 3) := by decide +kernel
theorem dX2_readAs_33 : decode cX2_readAs 33 = .ok (.if_icmp .le 8, 3) := by decide +kernel
theorem dX2_readAs_36 : decode cX2_readAs 36 = .ok (.iload 4, 2) := by decide +kernel
theorem dX2_readAs_38 : decode cX2_readAs 38 = .ok (.iconst 1, 1) := by decide +kernel
theorem dX2_readAs_39 : decode cX2_readAs 39 = .ok (.ishr, 1) := by decide +kernel
theorem dX2_readAs_40 : decode cX2_readAs 40 = .ok (.ireturn, 1) := by decide +kernel
theorem dX2_readAs_41 : decode cX2_readAs 41 = .ok (.iload 5, 2) := by decide +kernel
theorem dX2_readAs_43 : decode cX2_readAs 43 = .ok (.ineg, 1) := by decide +kernel
theorem dX2_readAs_44 : decode cX2_readAs 44 = .ok (.aload_n 0, 1) := by decide +kernel
theorem dX2_readAs_45 : decode cX2_readAs 45 = .ok (.getfield 27, 3) := by decide +kernel
theorem dX2_readAs_48 : decode cX2_readAs 48 = .ok (.if_icmp .le 13, 3) := by decide +kernel
theorem dX2_readAs_51 : decode cX2_readAs 51 = .ok (.iload 4, 2) := by decide +kernel
theorem dX2_readAs_53 : decode cX2_readAs 53 = .ok (.iconst 1, 1) := by decide +kernel
theorem dX2_readAs_54 : decode cX2_readAs 54 = .ok (.ishl, 1) := by decide +kernel
theorem dX2_readAs_55 : decode cX2_readAs 55 = .ok (.iconst 1, 1) := by decide +kernel
theorem dX2_readAs_56 : decode cX2_readAs 56 = .ok (.ior, 1) := by decide +kernel
theorem dX2_readAs_57 : decode cX2_readAs 57 = .ok (.bipush 31, 2) := by decide +kernel
theorem dX2_readAs_59 : decode cX2_readAs 59 = .ok (.iand, 1) := by decide +kernel
theorem dX2_readAs_60 : decode cX2_readAs 60 = .ok (.ireturn, 1) := by decide +kernel
theorem dX2_readAs_61 : decode cX2_readAs 61 = .ok (.iload 4, 2) := by decide +kernel
theorem dX2_readAs_63 : decode cX2_readAs 63 = .ok (.ireturn, 1) := by decide +kernel
set_option maxRecDepth 20000 in
theorem ggX3_init_X2_init : GoodIn wsX3_init wsX2_init := goodIn_r _ [18, 19, 2, 3, 20, 13, 14, 21, 22, 23, 24, 25, 26, 27, 28, 29, 30, 31, 32, 33, 59, 60, 43, 44, 45] (by decide +kernel) (by decide +kernel)
set_option maxRecDepth 20000 in
theorem gX3_init_X2_init : GoodIn wsX3_init (wsX2_init) := ggX3_init_X2_init
set_option maxRecDepth 20000 in
theorem ggX3_init_X1_init : GoodIn wsX3_init wsX1_init := goodIn_r _ [36, 37, 2, 3, 38, 39, 40, 13, 14, 41, 24, 25, 26, 27, 28, 56, 57, 58, 59, 60] (by decide +kernel) (by decide +kernel)
set_option maxRecDepth 20000 in
theorem gX3_init_X1_init : GoodIn wsX3_init (wsX1_init) := ggX3_init_X1_init
set_option maxRecDepth 20000 in
theorem ggX3_init_X0_init : GoodIn wsX3_init wsX0_init := goodIn_r _ [25, 26, 2, 3, 27, 28, 59, 60] (by decide +kernel) (by decide +kernel)
set_option maxRecDepth 20000 in
theorem gX3_init_X0_init : GoodIn wsX3_init (wsX0_init) := ggX3_init_X0_init
theorem dX3_init_0 : decode cX3_init 0 = .ok (.aload_n 0, 1) := by decide +kernel
theorem dX3_init_1 : decode cX3_init 1 = .ok (.invokespecial 1, 3) := by decide +kernel
theorem dX3_init_4 : decode cX3_init 4 = .ok (.aload_n 0, 1) := by decide +kernel
theorem dX3_init_5 : decode cX3_init 5 = .ok (.new 7, 3) := by decide +kernel
theorem dX3_init_8 : decode cX3_init 8 = .ok (.dup, 1) := by decide +kernel
theorem dX3_init_9 : decode cX3_init 9 = .ok (.invokespecial 9, 3) := by decide +kernel
theorem dX3_init_12 : decode cX3_init 12 = .ok (.putfield 10, 3) := by decide +kernel
theorem dX3_init_15 : decode cX3_init 15 = .ok (.aload_n 0, 1) := by decide +kernel
theorem dX3_init_16 : decode cX3_init 16 = .ok (.new 16, 3) := by decide +kernel
theorem dX3_init_19 : decode cX3_init 19 = .ok (.dup, 1) := by decide +kernel
theorem dX3_init_20 : decode cX3_init 20 = .ok (.invokespecial 18, 3) := by decide +kernel
theorem dX3_init_23 : decode cX3_init 23 = .ok (.putfield 19, 3) := by decide +kernel
theorem dX3_init_26 : decode cX3_init 26 = .ok (.aload_n 0, 1) := by decide +kernel
theorem dX3_init_27 : decode cX3_init 27 = .ok (.new 23, 3) := by decide +kernel
theorem dX3_init_30 : decode cX3_init 30 = .ok (.dup, 1) := by decide +kernel
theorem dX3_init_31 : decode cX3_init 31 = .ok (.bipush 120, 2) := by decide +kernel
theorem dX3_init_33 : decode cX3_init 33 = .ok (.invokespecial 25, 3) := by decide +kernel
theorem dX3_init_36 : decode cX3_init 36 = .ok (.putfield 28, 3) := by decide +kernel
theorem dX3_init_39 : decode cX3_init 39 = .ok (.return_, 1) := by decide +kernel
set_option maxRecDepth 20000 in
theorem ggX3_character_X3_isCode : GoodIn wsX3_character wsX3_isCode := goodIn_r _ [6] (by decide +kernel) (by decide +kernel)
set_option maxRecDepth 20000 in
theorem gX3_character_X3_isCode : GoodIn wsX3_character (va_wsS RX3 47 yX3_isCode wsX3_isCode) := goodIn_app (goodIn_of _ (by decide +kernel)) ggX3_character_X3_isCode
set_option maxRecDepth 20000 in
theorem ggX3_character_X3_characterOf : GoodIn wsX3_character wsX3_characterOf := goodIn_r _ [9, 10, 11, 5, 12, 13, 14, 15, 16] (by decide +kernel) (by decide +kernel)
set_option maxRecDepth 20000 in
theorem gX3_character_X3_characterOf : GoodIn wsX3_character (va_wsS RX3 52 yX3_characterOf wsX3_characterOf) := goodIn_app (goodIn_of _ (by decide +kernel)) ggX3_character_X3_characterOf
theorem dX3_character_0 : decode cX3_character 0 = .ok (.iload_n 1, 1) := by decide +kernel
theorem dX3_character_1 : decode cX3_character 1 = .ok (.invokestatic 47, 3) := by decide +kernel
theorem dX3_character_4 : decode cX3_character 4 = .ok (.ifCond .ne 13, 3) := by decide +kernel
theorem dX3_character_7 : decode cX3_character 7 = .ok (.new 36, 3) := by decide +kernel
theorem dX3_character_10 : decode cX3_character 10 = .ok (.dup, 1) := by decide +kernel
theorem dX3_character_11 : decode cX3_character 11 = .ok (.ldc 50, 2) := by decide +kernel
theorem dX3_character_13 : decode cX3_character 13 = .ok (.invokespecial 40, 3) := by decide +kernel
theorem dX3_character_16 : decode cX3_character 16 = .ok (.athrow, 1) := by decide +kernel
theorem dX3_character_17 : decode cX3_character 17 = .ok (.iload_n 1, 1) := by decide +kernel
theorem dX3_character_18 : decode cX3_character 18 = .ok (.iload_n 2, 1) := by decide +kernel
theorem dX3_character_19 : decode cX3_character 19 = .ok (.invokestatic 52, 3) := by decide +kernel
theorem dX3_character_22 : decode cX3_character 22 = .ok (.ireturn, 1) := by decide +kernel
set_option maxRecDepth 20000 in
theorem ggX3_setLine_X3_isCode : GoodIn wsX3_setLine wsX3_isCode := goodIn_r _ [9] (by decide +kernel) (by decide +kernel)
set_option maxRecDepth 20000 in
theorem gX3_setLine_X3_isCode : GoodIn wsX3_setLine (va_wsS RX3 47 yX3_isCode wsX3_isCode) := goodIn_app (goodIn_of _ (by decide +kernel)) ggX3_setLine_X3_isCode
set_option maxRecDepth 20000 in
theorem ggX3_setLine_X2_lateAt : GoodIn wsX3_setLine wsX2_lateAt := goodIn_r _ [14, 15, 16, 17, 18, 19, 20, 21, 22, 23, 24, 25, 26, 46, 47, 48, 49, 50] (by decide +kernel) (by decide +kernel)
set_option maxRecDepth 20000 in
theorem gX3_setLine_X2_lateAt : GoodIn wsX3_setLine (wsV RX3 74 RX2 yX2_lateAt wsX2_lateAt) := goodIn_app (goodIn_of _ (by decide +kernel)) ggX3_setLine_X2_lateAt
set_option maxRecDepth 20000 in
theorem ggX3_setLine_X2_change : GoodIn wsX3_setLine wsX2_change := goodIn_r _ [30, 15, 31, 32, 33, 34, 19, 35, 21, 22, 23, 24, 25, 26, 46, 47, 48, 49, 50] (by decide +kernel) (by decide +kernel)
set_option maxRecDepth 20000 in
theorem gX3_setLine_X2_change : GoodIn wsX3_setLine (wsV RX3 77 RX2 yX2_change wsX2_change) := goodIn_app (goodIn_of _ (by decide +kernel)) ggX3_setLine_X2_change
theorem dX3_setLine_0 : decode cX3_setLine 0 = .ok (.iload_n 1, 1) := by decide +kernel
theorem dX3_setLine_1 : decode cX3_setLine 1 = .ok (.ifCond .lt 9, 3) := by decide +kernel
theorem dX3_setLine_4 : decode cX3_setLine 4 = .ok (.iload_n 1, 1) := by decide +kernel
theorem dX3_setLine_5 : decode cX3_setLine 5 = .ok (.bipush 16, 2) := by decide +kernel
theorem dX3_setLine_7 : decode cX3_setLine 7 = .ok (.if_icmp .lt 13, 3) := by decide +kernel
theorem dX3_setLine_10 : decode cX3_setLine 10 = .ok (.new 36, 3) := by decide +kernel
theorem dX3_setLine_13 : decode cX3_setLine 13 = .ok (.dup, 1) := by decide +kernel
theorem dX3_setLine_14 : decode cX3_setLine 14 = .ok (.ldc 65, 2) := by decide +kernel
theorem dX3_setLine_16 : decode cX3_setLine 16 = .ok (.invokespecial 40, 3) := by decide +kernel
theorem dX3_setLine_19 : decode cX3_setLine 19 = .ok (.athrow, 1) := by decide +kernel
theorem dX3_setLine_20 : decode cX3_setLine 20 = .ok (.iload_n 2, 1) := by decide +kernel
theorem dX3_setLine_21 : decode cX3_setLine 21 = .ok (.bipush (-9), 2) := by decide +kernel
theorem dX3_setLine_23 : decode cX3_setLine 23 = .ok (.if_icmp .lt 9, 3) := by decide +kernel
theorem dX3_setLine_26 : decode cX3_setLine 26 = .ok (.iload_n 2, 1) := by decide +kernel
theorem dX3_setLine_27 : decode cX3_setLine 27 = .ok (.bipush 9, 2) := by decide +kernel
theorem dX3_setLine_29 : decode cX3_setLine 29 = .ok (.if_icmp .le 13, 3) := by decide +kernel
theorem dX3_setLine_32 : decode cX3_setLine 32 = .ok (.new 67, 3) := by decide +kernel
theorem dX3_setLine_35 : decode cX3_setLine 35 = .ok (.dup, 1) := by decide +kernel
theorem dX3_setLine_36 : decode cX3_setLine 36 = .ok (.ldc 69, 2) := by decide +kernel
theorem dX3_setLine_38 : decode cX3_setLine 38 = .ok (.invokespecial 71, 3) := by decide +kernel
theorem dX3_setLine_41 : decode cX3_setLine 41 = .ok (.athrow, 1) := by decide +kernel
theorem dX3_setLine_42 : decode cX3_setLine 42 = .ok (.iload_n 3, 1) := by decide +kernel
theorem dX3_setLine_43 : decode cX3_setLine 43 = .ok (.invokestatic 47, 3) := by decide +kernel
theorem dX3_setLine_46 : decode cX3_setLine 46 = .ok (.ifCond .ne 13, 3) := by decide +kernel
theorem dX3_setLine_49 : decode cX3_setLine 49 = .ok (.new 67, 3) := by decide +kernel
theorem dX3_setLine_52 : decode cX3_setLine 52 = .ok (.dup, 1) := by decide +kernel
theorem dX3_setLine_53 : decode cX3_setLine 53 = .ok (.ldc 72, 2) := by decide +kernel
theorem dX3_setLine_55 : decode cX3_setLine 55 = .ok (.invokespecial 71, 3) := by decide +kernel
theorem dX3_setLine_58 : decode cX3_setLine 58 = .ok (.athrow, 1) := by decide +kernel
theorem dX3_setLine_59 : decode cX3_setLine 59 = .ok (.aload_n 0, 1) := by decide +kernel
theorem dX3_setLine_60 : decode cX3_setLine 60 = .ok (.getfield 10, 3) := by decide +kernel
theorem dX3_setLine_63 : decode cX3_setLine 63 = .ok (.iload_n 1, 1) := by decide +kernel
theorem dX3_setLine_64 : decode cX3_setLine 64 = .ok (.invokevirtual 74, 3) := by decide +kernel
theorem dX3_setLine_67 : decode cX3_setLine 67 = .ok (.istore 4, 2) := by decide +kernel
theorem dX3_setLine_69 : decode cX3_setLine 69 = .ok (.aload_n 0, 1) := by decide +kernel
theorem dX3_setLine_70 : decode cX3_setLine 70 = .ok (.getfield 10, 3) := by decide +kernel
theorem dX3_setLine_73 : decode cX3_setLine 73 = .ok (.iload_n 1, 1) := by decide +kernel
theorem dX3_setLine_74 : decode cX3_setLine 74 = .ok (.iload_n 2, 1) := by decide +kernel
theorem dX3_setLine_75 : decode cX3_setLine 75 = .ok (.iload_n 3, 1) := by decide +kernel
theorem dX3_setLine_76 : decode cX3_setLine 76 = .ok (.invokevirtual 77, 3) := by decide +kernel
theorem dX3_setLine_79 : decode cX3_setLine 79 = .ok (.iload 4, 2) := by decide +kernel
theorem dX3_setLine_81 : decode cX3_setLine 81 = .ok (.ireturn, 1) := by decide +kernel
set_option maxRecDepth 20000 in
theorem ggX3_setPlay_X2_play : GoodIn wsX3_setPlay wsX2_play := goodIn_r _ [8, 9, 24, 25, 26] (by decide +kernel) (by decide +kernel)
set_option maxRecDepth 20000 in
theorem gX3_setPlay_X2_play : GoodIn wsX3_setPlay (wsV RX3 83 RX2 yX2_play wsX2_play) := goodIn_app (goodIn_of _ (by decide +kernel)) ggX3_setPlay_X2_play
set_option maxRecDepth 20000 in
theorem ggX3_setPlay_X2_changePlay : GoodIn wsX3_setPlay wsX2_changePlay := goodIn_r _ [13, 9, 24, 25, 26] (by decide +kernel) (by decide +kernel)
set_option maxRecDepth 20000 in
theorem gX3_setPlay_X2_changePlay : GoodIn wsX3_setPlay (wsV RX3 87 RX2 yX2_changePlay wsX2_changePlay) := goodIn_app (goodIn_of _ (by decide +kernel)) ggX3_setPlay_X2_changePlay
theorem dX3_setPlay_0 : decode cX3_setPlay 0 = .ok (.iload_n 1, 1) := by decide +kernel
theorem dX3_setPlay_1 : decode cX3_setPlay 1 = .ok (.ifCond .lt 9, 3) := by decide +kernel
theorem dX3_setPlay_4 : decode cX3_setPlay 4 = .ok (.iload_n 1, 1) := by decide +kernel
theorem dX3_setPlay_5 : decode cX3_setPlay 5 = .ok (.bipush 9, 2) := by decide +kernel
theorem dX3_setPlay_7 : decode cX3_setPlay 7 = .ok (.if_icmp .le 13, 3) := by decide +kernel
theorem dX3_setPlay_10 : decode cX3_setPlay 10 = .ok (.new 67, 3) := by decide +kernel
theorem dX3_setPlay_13 : decode cX3_setPlay 13 = .ok (.dup, 1) := by decide +kernel
theorem dX3_setPlay_14 : decode cX3_setPlay 14 = .ok (.ldc 81, 2) := by decide +kernel
theorem dX3_setPlay_16 : decode cX3_setPlay 16 = .ok (.invokespecial 71, 3) := by decide +kernel
theorem dX3_setPlay_19 : decode cX3_setPlay 19 = .ok (.athrow, 1) := by decide +kernel
theorem dX3_setPlay_20 : decode cX3_setPlay 20 = .ok (.aload_n 0, 1) := by decide +kernel
theorem dX3_setPlay_21 : decode cX3_setPlay 21 = .ok (.getfield 10, 3) := by decide +kernel
theorem dX3_setPlay_24 : decode cX3_setPlay 24 = .ok (.invokevirtual 83, 3) := by decide +kernel
theorem dX3_setPlay_27 : decode cX3_setPlay 27 = .ok (.istore_n 2, 1) := by decide +kernel
theorem dX3_setPlay_28 : decode cX3_setPlay 28 = .ok (.aload_n 0, 1) := by decide +kernel
theorem dX3_setPlay_29 : decode cX3_setPlay 29 = .ok (.getfield 10, 3) := by decide +kernel
theorem dX3_setPlay_32 : decode cX3_setPlay 32 = .ok (.iload_n 1, 1) := by decide +kernel
theorem dX3_setPlay_33 : decode cX3_setPlay 33 = .ok (.invokevirtual 87, 3) := by decide +kernel
theorem dX3_setPlay_36 : decode cX3_setPlay 36 = .ok (.iload_n 2, 1) := by decide +kernel
theorem dX3_setPlay_37 : decode cX3_setPlay 37 = .ok (.ireturn, 1) := by decide +kernel
theorem dX3_setUnshift_0 : decode cX3_setUnshift 0 = .ok (.aload_n 0, 1) := by decide +kernel
theorem dX3_setUnshift_1 : decode cX3_setUnshift 1 = .ok (.getfield 90, 3) := by decide +kernel
theorem dX3_setUnshift_4 : decode cX3_setUnshift 4 = .ok (.istore_n 2, 1) := by decide +kernel
theorem dX3_setUnshift_5 : decode cX3_setUnshift 5 = .ok (.aload_n 0, 1) := by decide +kernel
theorem dX3_setUnshift_6 : decode cX3_setUnshift 6 = .ok (.iload_n 1, 1) := by decide +kernel
theorem dX3_setUnshift_7 : decode cX3_setUnshift 7 = .ok (.putfield 90, 3) := by decide +kernel
theorem dX3_setUnshift_10 : decode cX3_setUnshift 10 = .ok (.iload_n 2, 1) := by decide +kernel
theorem dX3_setUnshift_11 : decode cX3_setUnshift 11 = .ok (.ireturn, 1) := by decide +kernel
set_option maxRecDepth 20000 in
theorem ggX3_receive_X3_isCode : GoodIn wsX3_receive wsX3_isCode := goodIn_r _ [6] (by decide +kernel) (by decide +kernel)
set_option maxRecDepth 20000 in
theorem gX3_receive_X3_isCode : GoodIn wsX3_receive (va_wsS RX3 47 yX3_isCode wsX3_isCode) := goodIn_app (goodIn_of _ (by decide +kernel)) ggX3_receive_X3_isCode
set_option maxRecDepth 20000 in
theorem ggX3_receive_X3_takeIn : GoodIn wsX3_receive wsX3_takeIn := goodIn_r _ [10, 11, 12, 13, 14, 15, 16, 17, 18, 19, 20, 21, 22, 23, 24, 25, 26, 27, 28, 29, 30, 31, 32, 33, 34, 35, 5, 36, 37, 38, 39, 40, 41, 42, 43, 44, 45, 46, 47, 48, 49, 50, 51, 52, 53, 54, 55, 56, 57, 58, 59, 60, 61, 62, 63, 64, 65, 66, 67, 68, 69, 70, 71, 72, 73, 74, 75, 76, 77, 78, 79, 80, 81, 82, 83, 84, 85, 86, 87, 88, 89, 90, 91, 92, 93, 94, 95, 96, 97, 98, 99, 100, 101] (by decide +kernel) (by decide +kernel)
set_option maxRecDepth 20000 in
theorem gX3_receive_X3_takeIn : GoodIn wsX3_receive (wsV RX3 93 RX3 yX3_takeIn wsX3_takeIn) := goodIn_app (goodIn_of _ (by decide +kernel)) ggX3_receive_X3_takeIn
theorem dX3_receive_0 : decode cX3_receive 0 = .ok (.iload_n 1, 1) := by decide +kernel
theorem dX3_receive_1 : decode cX3_receive 1 = .ok (.invokestatic 47, 3) := by decide +kernel
theorem dX3_receive_4 : decode cX3_receive 4 = .ok (.ifCond .ne 13, 3) := by decide +kernel
theorem dX3_receive_7 : decode cX3_receive 7 = .ok (.new 36, 3) := by decide +kernel
theorem dX3_receive_10 : decode cX3_receive 10 = .ok (.dup, 1) := by decide +kernel
theorem dX3_receive_11 : decode cX3_receive 11 = .ok (.ldc 50, 2) := by decide +kernel
theorem dX3_receive_13 : decode cX3_receive 13 = .ok (.invokespecial 40, 3) := by decide +kernel
theorem dX3_receive_16 : decode cX3_receive 16 = .ok (.athrow, 1) := by decide +kernel
theorem dX3_receive_17 : decode cX3_receive 17 = .ok (.aload_n 0, 1) := by decide +kernel
theorem dX3_receive_18 : decode cX3_receive 18 = .ok (.iload_n 1, 1) := by decide +kernel
theorem dX3_receive_19 : decode cX3_receive 19 = .ok (.invokevirtual 93, 3) := by decide +kernel
theorem dX3_receive_22 : decode cX3_receive 22 = .ok (.ireturn, 1) := by decide +kernel
set_option maxRecDepth 20000 in
theorem ggX3_punch_X3_isCode : GoodIn wsX3_punch wsX3_isCode := goodIn_r _ [9] (by decide +kernel) (by decide +kernel)
set_option maxRecDepth 20000 in
theorem gX3_punch_X3_isCode : GoodIn wsX3_punch (va_wsS RX3 47 yX3_isCode wsX3_isCode) := goodIn_app (goodIn_of _ (by decide +kernel)) ggX3_punch_X3_isCode
set_option maxRecDepth 20000 in
theorem ggX3_punch_X0_room : GoodIn wsX3_punch wsX0_room := goodIn_r _ [14, 15, 16, 35, 36] (by decide +kernel) (by decide +kernel)
set_option maxRecDepth 20000 in
theorem gX3_punch_X0_room : GoodIn wsX3_punch (wsV RX3 96 RX0 yX0_room wsX0_room) := goodIn_app (goodIn_of _ (by decide +kernel)) ggX3_punch_X0_room
set_option maxRecDepth 20000 in
theorem ggX3_punch_X0_add : GoodIn wsX3_punch wsX0_add := goodIn_r _ [20, 16, 15, 35, 36] (by decide +kernel) (by decide +kernel)
set_option maxRecDepth 20000 in
theorem gX3_punch_X0_add : GoodIn wsX3_punch (wsV RX3 104 RX0 yX0_add wsX0_add) := goodIn_app (goodIn_of _ (by decide +kernel)) ggX3_punch_X0_add
set_option maxRecDepth 20000 in
theorem ggX3_punch_X0_size : GoodIn wsX3_punch wsX0_size := goodIn_r _ [24, 16, 35, 36] (by decide +kernel) (by decide +kernel)
set_option maxRecDepth 20000 in
theorem gX3_punch_X0_size : GoodIn wsX3_punch (wsV RX3 107 RX0 yX0_size wsX0_size) := goodIn_app (goodIn_of _ (by decide +kernel)) ggX3_punch_X0_size
theorem dX3_punch_0 : decode cX3_punch 0 = .ok (.iload_n 1, 1) := by decide +kernel
theorem dX3_punch_1 : decode cX3_punch 1 = .ok (.invokestatic 47, 3) := by decide +kernel
theorem dX3_punch_4 : decode cX3_punch 4 = .ok (.ifCond .ne 13, 3) := by decide +kernel
theorem dX3_punch_7 : decode cX3_punch 7 = .ok (.new 36, 3) := by decide +kernel
theorem dX3_punch_10 : decode cX3_punch 10 = .ok (.dup, 1) := by decide +kernel
theorem dX3_punch_11 : decode cX3_punch 11 = .ok (.ldc 50, 2) := by decide +kernel
theorem dX3_punch_13 : decode cX3_punch 13 = .ok (.invokespecial 40, 3) := by decide +kernel
theorem dX3_punch_16 : decode cX3_punch 16 = .ok (.athrow, 1) := by decide +kernel
theorem dX3_punch_17 : decode cX3_punch 17 = .ok (.aload_n 0, 1) := by decide +kernel
theorem dX3_punch_18 : decode cX3_punch 18 = .ok (.getfield 28, 3) := by decide +kernel
theorem dX3_punch_21 : decode cX3_punch 21 = .ok (.invokevirtual 96, 3) := by decide +kernel
theorem dX3_punch_24 : decode cX3_punch 24 = .ok (.iconst 1, 1) := by decide +kernel
theorem dX3_punch_25 : decode cX3_punch 25 = .ok (.if_icmp .ge 13, 3) := by decide +kernel
theorem dX3_punch_28 : decode cX3_punch 28 = .ok (.new 99, 3) := by decide +kernel
theorem dX3_punch_31 : decode cX3_punch 31 = .ok (.dup, 1) := by decide +kernel
theorem dX3_punch_32 : decode cX3_punch 32 = .ok (.ldc 101, 2) := by decide +kernel
theorem dX3_punch_34 : decode cX3_punch 34 = .ok (.invokespecial 103, 3) := by decide +kernel
theorem dX3_punch_37 : decode cX3_punch 37 = .ok (.athrow, 1) := by decide +kernel
theorem dX3_punch_38 : decode cX3_punch 38 = .ok (.aload_n 0, 1) := by decide +kernel
theorem dX3_punch_39 : decode cX3_punch 39 = .ok (.getfield 28, 3) := by decide +kernel
theorem dX3_punch_42 : decode cX3_punch 42 = .ok (.iload_n 1, 1) := by decide +kernel
theorem dX3_punch_43 : decode cX3_punch 43 = .ok (.invokevirtual 104, 3) := by decide +kernel
theorem dX3_punch_46 : decode cX3_punch 46 = .ok (.pop, 1) := by decide +kernel
theorem dX3_punch_47 : decode cX3_punch 47 = .ok (.aload_n 0, 1) := by decide +kernel
theorem dX3_punch_48 : decode cX3_punch 48 = .ok (.getfield 28, 3) := by decide +kernel
theorem dX3_punch_51 : decode cX3_punch 51 = .ok (.invokevirtual 107, 3) := by decide +kernel
theorem dX3_punch_54 : decode cX3_punch 54 = .ok (.ireturn, 1) := by decide +kernel
set_option maxRecDepth 20000 in
theorem ggX3_type_X3_isCharacter : GoodIn wsX3_type wsX3_isCharacter := goodIn_r _ [9] (by decide +kernel) (by decide +kernel)
set_option maxRecDepth 20000 in
theorem gX3_type_X3_isCharacter : GoodIn wsX3_type (va_wsS RX3 32 yX3_isCharacter wsX3_isCharacter) := goodIn_app (goodIn_of _ (by decide +kernel)) ggX3_type_X3_isCharacter
set_option maxRecDepth 20000 in
theorem ggX3_type_X3_isFigure : GoodIn wsX3_type wsX3_isFigure := goodIn_r _ [12] (by decide +kernel) (by decide +kernel)
set_option maxRecDepth 20000 in
theorem gX3_type_X3_isFigure : GoodIn wsX3_type (va_wsS RX3 110 yX3_isFigure wsX3_isFigure) := goodIn_app (goodIn_of _ (by decide +kernel)) ggX3_type_X3_isFigure
set_option maxRecDepth 20000 in
theorem ggX3_type_X3_codeOf : GoodIn wsX3_type wsX3_codeOf := goodIn_r _ [15, 16] (by decide +kernel) (by decide +kernel)
set_option maxRecDepth 20000 in
theorem gX3_type_X3_codeOf : GoodIn wsX3_type (va_wsS RX3 43 yX3_codeOf wsX3_codeOf) := goodIn_app (goodIn_of _ (by decide +kernel)) ggX3_type_X3_codeOf
set_option maxRecDepth 20000 in
theorem ggX3_type_X3_dependsOnShift : GoodIn wsX3_type wsX3_dependsOnShift := goodIn_r _ [19, 20, 21, 8, 22, 23] (by decide +kernel) (by decide +kernel)
set_option maxRecDepth 20000 in
theorem gX3_type_X3_dependsOnShift : GoodIn wsX3_type (va_wsS RX3 113 yX3_dependsOnShift wsX3_dependsOnShift) := goodIn_app (goodIn_of _ (by decide +kernel)) ggX3_type_X3_dependsOnShift
set_option maxRecDepth 20000 in
theorem ggX3_type_X3_figuresAtEnd : GoodIn wsX3_type wsX3_figuresAtEnd := goodIn_r _ [27, 5, 28, 29, 30, 31, 32, 33, 34, 35, 36, 8, 37, 38, 39, 40, 41, 42, 43, 44, 45, 46, 47, 48, 49, 50, 51, 52, 53, 54, 55, 64, 65, 66, 67, 68, 69, 70, 71, 72, 73, 74, 75] (by decide +kernel) (by decide +kernel)
set_option maxRecDepth 20000 in
theorem gX3_type_X3_figuresAtEnd : GoodIn wsX3_type (wsV RX3 116 RX3 yX3_figuresAtEnd wsX3_figuresAtEnd) := goodIn_app (goodIn_of _ (by decide +kernel)) ggX3_type_X3_figuresAtEnd
set_option maxRecDepth 20000 in
theorem ggX3_type_X0_room : GoodIn wsX3_type wsX0_room := goodIn_r _ [59, 42, 33, 74, 75] (by decide +kernel) (by decide +kernel)
set_option maxRecDepth 20000 in
theorem gX3_type_X0_room : GoodIn wsX3_type (wsV RX3 96 RX0 yX0_room wsX0_room) := goodIn_app (goodIn_of _ (by decide +kernel)) ggX3_type_X0_room
set_option maxRecDepth 20000 in
theorem ggX3_type_X0_add : GoodIn wsX3_type wsX0_add := goodIn_r _ [63, 33, 42, 74, 75] (by decide +kernel) (by decide +kernel)
set_option maxRecDepth 20000 in
theorem gX3_type_X0_add : GoodIn wsX3_type (wsV RX3 104 RX0 yX0_add wsX0_add) := goodIn_app (goodIn_of _ (by decide +kernel)) ggX3_type_X0_add
theorem dX3_type_0 : decode cX3_type 0 = .ok (.iload_n 1, 1) := by decide +kernel
theorem dX3_type_1 : decode cX3_type 1 = .ok (.invokestatic 32, 3) := by decide +kernel
theorem dX3_type_4 : decode cX3_type 4 = .ok (.ifCond .ne 13, 3) := by decide +kernel
theorem dX3_type_7 : decode cX3_type 7 = .ok (.new 36, 3) := by decide +kernel
theorem dX3_type_10 : decode cX3_type 10 = .ok (.dup, 1) := by decide +kernel
theorem dX3_type_11 : decode cX3_type 11 = .ok (.ldc 38, 2) := by decide +kernel
theorem dX3_type_13 : decode cX3_type 13 = .ok (.invokespecial 40, 3) := by decide +kernel
theorem dX3_type_16 : decode cX3_type 16 = .ok (.athrow, 1) := by decide +kernel
theorem dX3_type_17 : decode cX3_type 17 = .ok (.iload_n 1, 1) := by decide +kernel
theorem dX3_type_18 : decode cX3_type 18 = .ok (.invokestatic 110, 3) := by decide +kernel
theorem dX3_type_21 : decode cX3_type 21 = .ok (.istore_n 2, 1) := by decide +kernel
theorem dX3_type_22 : decode cX3_type 22 = .ok (.iload_n 1, 1) := by decide +kernel
theorem dX3_type_23 : decode cX3_type 23 = .ok (.invokestatic 43, 3) := by decide +kernel
theorem dX3_type_26 : decode cX3_type 26 = .ok (.invokestatic 113, 3) := by decide +kernel
theorem dX3_type_29 : decode cX3_type 29 = .ok (.ifCond .eq 15, 3) := by decide +kernel
theorem dX3_type_32 : decode cX3_type 32 = .ok (.iload_n 2, 1) := by decide +kernel
theorem dX3_type_33 : decode cX3_type 33 = .ok (.aload_n 0, 1) := by decide +kernel
theorem dX3_type_34 : decode cX3_type 34 = .ok (.invokevirtual 116, 3) := by decide +kernel
theorem dX3_type_37 : decode cX3_type 37 = .ok (.if_icmp .eq 7, 3) := by decide +kernel
theorem dX3_type_40 : decode cX3_type 40 = .ok (.iconst 1, 1) := by decide +kernel
theorem dX3_type_41 : decode cX3_type 41 = .ok (.goto 4, 3) := by decide +kernel
theorem dX3_type_44 : decode cX3_type 44 = .ok (.iconst 0, 1) := by decide +kernel
theorem dX3_type_45 : decode cX3_type 45 = .ok (.istore_n 3, 1) := by decide +kernel
theorem dX3_type_46 : decode cX3_type 46 = .ok (.iload_n 3, 1) := by decide +kernel
theorem dX3_type_47 : decode cX3_type 47 = .ok (.ifCond .eq 7, 3) := by decide +kernel
theorem dX3_type_50 : decode cX3_type 50 = .ok (.iconst 2, 1) := by decide +kernel
theorem dX3_type_51 : decode cX3_type 51 = .ok (.goto 4, 3) := by decide +kernel
theorem dX3_type_54 : decode cX3_type 54 = .ok (.iconst 1, 1) := by decide +kernel
theorem dX3_type_55 : decode cX3_type 55 = .ok (.istore 4, 2) := by decide +kernel
theorem dX3_type_57 : decode cX3_type 57 = .ok (.aload_n 0, 1) := by decide +kernel
theorem dX3_type_58 : decode cX3_type 58 = .ok (.getfield 28, 3) := by decide +kernel
theorem dX3_type_61 : decode cX3_type 61 = .ok (.invokevirtual 96, 3) := by decide +kernel
theorem dX3_type_64 : decode cX3_type 64 = .ok (.iload 4, 2) := by decide +kernel
theorem dX3_type_66 : decode cX3_type 66 = .ok (.if_icmp .ge 13, 3) := by decide +kernel
theorem dX3_type_69 : decode cX3_type 69 = .ok (.new 99, 3) := by decide +kernel
theorem dX3_type_72 : decode cX3_type 72 = .ok (.dup, 1) := by decide +kernel
theorem dX3_type_73 : decode cX3_type 73 = .ok (.ldc 120, 2) := by decide +kernel
theorem dX3_type_75 : decode cX3_type 75 = .ok (.invokespecial 103, 3) := by decide +kernel
theorem dX3_type_78 : decode cX3_type 78 = .ok (.athrow, 1) := by decide +kernel
theorem dX3_type_79 : decode cX3_type 79 = .ok (.iload_n 3, 1) := by decide +kernel
theorem dX3_type_80 : decode cX3_type 80 = .ok (.ifCond .eq 22, 3) := by decide +kernel
theorem dX3_type_83 : decode cX3_type 83 = .ok (.aload_n 0, 1) := by decide +kernel
theorem dX3_type_84 : decode cX3_type 84 = .ok (.getfield 28, 3) := by decide +kernel
theorem dX3_type_87 : decode cX3_type 87 = .ok (.iload_n 2, 1) := by decide +kernel
theorem dX3_type_88 : decode cX3_type 88 = .ok (.ifCond .eq 8, 3) := by decide +kernel
theorem dX3_type_91 : decode cX3_type 91 = .ok (.bipush 27, 2) := by decide +kernel
theorem dX3_type_93 : decode cX3_type 93 = .ok (.goto 5, 3) := by decide +kernel
theorem dX3_type_96 : decode cX3_type 96 = .ok (.bipush 31, 2) := by decide +kernel
theorem dX3_type_98 : decode cX3_type 98 = .ok (.invokevirtual 104, 3) := by decide +kernel
theorem dX3_type_101 : decode cX3_type 101 = .ok (.pop, 1) := by decide +kernel
theorem dX3_type_102 : decode cX3_type 102 = .ok (.aload_n 0, 1) := by decide +kernel
theorem dX3_type_103 : decode cX3_type 103 = .ok (.getfield 28, 3) := by decide +kernel
theorem dX3_type_106 : decode cX3_type 106 = .ok (.iload_n 1, 1) := by decide +kernel
theorem dX3_type_107 : decode cX3_type 107 = .ok (.invokestatic 43, 3) := by decide +kernel
theorem dX3_type_110 : decode cX3_type 110 = .ok (.invokevirtual 104, 3) := by decide +kernel
theorem dX3_type_113 : decode cX3_type 113 = .ok (.pop, 1) := by decide +kernel
theorem dX3_type_114 : decode cX3_type 114 = .ok (.iload 4, 2) := by decide +kernel
theorem dX3_type_116 : decode cX3_type 116 = .ok (.ireturn, 1) := by decide +kernel
set_option maxRecDepth 20000 in
theorem ggX3_rub_X0_has : GoodIn wsX3_rub wsX0_has := goodIn_r _ [8, 9, 10, 30, 31] (by decide +kernel) (by decide +kernel)
set_option maxRecDepth 20000 in
theorem gX3_rub_X0_has : GoodIn wsX3_rub (wsV RX3 122 RX0 yX0_has wsX0_has) := goodIn_app (goodIn_of _ (by decide +kernel)) ggX3_rub_X0_has
set_option maxRecDepth 20000 in
theorem ggX3_rub_X0_at : GoodIn wsX3_rub wsX0_at := goodIn_r _ [14, 10, 15, 5, 6, 7, 8, 9, 30, 31] (by decide +kernel) (by decide +kernel)
set_option maxRecDepth 20000 in
theorem gX3_rub_X0_at : GoodIn wsX3_rub (wsV RX3 127 RX0 yX0_at wsX0_at) := goodIn_app (goodIn_of _ (by decide +kernel)) ggX3_rub_X0_at
set_option maxRecDepth 20000 in
theorem ggX3_rub_X0_change : GoodIn wsX3_rub wsX0_change := goodIn_r _ [19, 10, 15, 5, 6, 7, 8, 9, 30, 31] (by decide +kernel) (by decide +kernel)
set_option maxRecDepth 20000 in
theorem gX3_rub_X0_change : GoodIn wsX3_rub (wsV RX3 130 RX0 yX0_change wsX0_change) := goodIn_app (goodIn_of _ (by decide +kernel)) ggX3_rub_X0_change
theorem dX3_rub_0 : decode cX3_rub 0 = .ok (.aload_n 0, 1) := by decide +kernel
theorem dX3_rub_1 : decode cX3_rub 1 = .ok (.getfield 28, 3) := by decide +kernel
theorem dX3_rub_4 : decode cX3_rub 4 = .ok (.iload_n 1, 1) := by decide +kernel
theorem dX3_rub_5 : decode cX3_rub 5 = .ok (.invokevirtual 122, 3) := by decide +kernel
theorem dX3_rub_8 : decode cX3_rub 8 = .ok (.ifCond .ne 13, 3) := by decide +kernel
theorem dX3_rub_11 : decode cX3_rub 11 = .ok (.new 36, 3) := by decide +kernel
theorem dX3_rub_14 : decode cX3_rub 14 = .ok (.dup, 1) := by decide +kernel
theorem dX3_rub_15 : decode cX3_rub 15 = .ok (.ldc 125, 2) := by decide +kernel
theorem dX3_rub_17 : decode cX3_rub 17 = .ok (.invokespecial 40, 3) := by decide +kernel
theorem dX3_rub_20 : decode cX3_rub 20 = .ok (.athrow, 1) := by decide +kernel
theorem dX3_rub_21 : decode cX3_rub 21 = .ok (.aload_n 0, 1) := by decide +kernel
theorem dX3_rub_22 : decode cX3_rub 22 = .ok (.getfield 28, 3) := by decide +kernel
theorem dX3_rub_25 : decode cX3_rub 25 = .ok (.iload_n 1, 1) := by decide +kernel
theorem dX3_rub_26 : decode cX3_rub 26 = .ok (.invokevirtual 127, 3) := by decide +kernel
theorem dX3_rub_29 : decode cX3_rub 29 = .ok (.istore_n 2, 1) := by decide +kernel
theorem dX3_rub_30 : decode cX3_rub 30 = .ok (.aload_n 0, 1) := by decide +kernel
theorem dX3_rub_31 : decode cX3_rub 31 = .ok (.getfield 28, 3) := by decide +kernel
theorem dX3_rub_34 : decode cX3_rub 34 = .ok (.iload_n 1, 1) := by decide +kernel
theorem dX3_rub_35 : decode cX3_rub 35 = .ok (.bipush 31, 2) := by decide +kernel
theorem dX3_rub_37 : decode cX3_rub 37 = .ok (.invokevirtual 130, 3) := by decide +kernel
theorem dX3_rub_40 : decode cX3_rub 40 = .ok (.iload_n 2, 1) := by decide +kernel
theorem dX3_rub_41 : decode cX3_rub 41 = .ok (.ireturn, 1) := by decide +kernel
set_option maxRecDepth 20000 in
theorem ggX3_run_X0_size : GoodIn wsX3_run wsX0_size := goodIn_r _ [13, 14, 102, 103] (by decide +kernel) (by decide +kernel)
set_option maxRecDepth 20000 in
theorem gX3_run_X0_size : GoodIn wsX3_run (wsV RX3 107 RX0 yX0_size wsX0_size) := goodIn_app (goodIn_of _ (by decide +kernel)) ggX3_run_X0_size
set_option maxRecDepth 20000 in
theorem ggX3_run_X0_at : GoodIn wsX3_run wsX0_at := goodIn_r _ [18, 19, 20, 21, 22, 12, 23, 14, 102, 103] (by decide +kernel) (by decide +kernel)
set_option maxRecDepth 20000 in
theorem gX3_run_X0_at : GoodIn wsX3_run (wsV RX3 127 RX0 yX0_at wsX0_at) := goodIn_app (goodIn_of _ (by decide +kernel)) ggX3_run_X0_at
set_option maxRecDepth 20000 in
theorem ggX3_run_X3_takeIn : GoodIn wsX3_run wsX3_takeIn := goodIn_r _ [28, 29, 30, 31, 32, 33, 34, 35, 36, 37, 38, 39, 40, 16, 17, 12, 18, 19, 20, 21, 22, 23, 14, 41, 42, 43, 27, 44, 45, 46, 47, 48, 49, 50, 51, 52, 53, 54, 55, 56, 57, 58, 59, 60, 61, 62, 63, 64, 65, 66, 67, 68, 69, 70, 71, 72, 73, 74, 75, 76, 77, 78, 79, 80, 81, 82, 83, 84, 85, 86, 87, 88, 89, 90, 91, 92, 93, 94, 95, 96, 97, 98, 99, 100, 101, 104, 105, 106, 102, 103, 107, 108, 109] (by decide +kernel) (by decide +kernel)
set_option maxRecDepth 20000 in
theorem gX3_run_X3_takeIn : GoodIn wsX3_run (wsV RX3 93 RX3 yX3_takeIn wsX3_takeIn) := goodIn_app (goodIn_of _ (by decide +kernel)) ggX3_run_X3_takeIn
theorem dX3_run_0 : decode cX3_run 0 = .ok (.iload_n 1, 1) := by decide +kernel
theorem dX3_run_1 : decode cX3_run 1 = .ok (.iconst 1, 1) := by decide +kernel
theorem dX3_run_2 : decode cX3_run 2 = .ok (.if_icmp .lt 9, 3) := by decide +kernel
theorem dX3_run_5 : decode cX3_run 5 = .ok (.iload_n 1, 1) := by decide +kernel
theorem dX3_run_6 : decode cX3_run 6 = .ok (.bipush 120, 2) := by decide +kernel
theorem dX3_run_8 : decode cX3_run 8 = .ok (.if_icmp .le 13, 3) := by decide +kernel
theorem dX3_run_11 : decode cX3_run 11 = .ok (.new 67, 3) := by decide +kernel
theorem dX3_run_14 : decode cX3_run 14 = .ok (.dup, 1) := by decide +kernel
theorem dX3_run_15 : decode cX3_run 15 = .ok (.ldc 133, 2) := by decide +kernel
theorem dX3_run_17 : decode cX3_run 17 = .ok (.invokespecial 71, 3) := by decide +kernel
theorem dX3_run_20 : decode cX3_run 20 = .ok (.athrow, 1) := by decide +kernel
theorem dX3_run_21 : decode cX3_run 21 = .ok (.iload_n 1, 1) := by decide +kernel
theorem dX3_run_22 : decode cX3_run 22 = .ok (.aload_n 0, 1) := by decide +kernel
theorem dX3_run_23 : decode cX3_run 23 = .ok (.getfield 28, 3) := by decide +kernel
theorem dX3_run_26 : decode cX3_run 26 = .ok (.invokevirtual 107, 3) := by decide +kernel
theorem dX3_run_29 : decode cX3_run 29 = .ok (.aload_n 0, 1) := by decide +kernel
theorem dX3_run_30 : decode cX3_run 30 = .ok (.getfield 135, 3) := by decide +kernel
theorem dX3_run_33 : decode cX3_run 33 = .ok (.isub, 1) := by decide +kernel
theorem dX3_run_34 : decode cX3_run 34 = .ok (.invokestatic 139, 3) := by decide +kernel
theorem dX3_run_37 : decode cX3_run 37 = .ok (.istore_n 2, 1) := by decide +kernel
theorem dX3_run_38 : decode cX3_run 38 = .ok (.iconst 0, 1) := by decide +kernel
theorem dX3_run_39 : decode cX3_run 39 = .ok (.istore_n 3, 1) := by decide +kernel
theorem dX3_run_40 : decode cX3_run 40 = .ok (.iload_n 3, 1) := by decide +kernel
theorem dX3_run_41 : decode cX3_run 41 = .ok (.iload_n 2, 1) := by decide +kernel
theorem dX3_run_42 : decode cX3_run 42 = .ok (.if_icmp .ge 35, 3) := by decide +kernel
theorem dX3_run_45 : decode cX3_run 45 = .ok (.aload_n 0, 1) := by decide +kernel
theorem dX3_run_46 : decode cX3_run 46 = .ok (.aload_n 0, 1) := by decide +kernel
theorem dX3_run_47 : decode cX3_run 47 = .ok (.getfield 28, 3) := by decide +kernel
theorem dX3_run_50 : decode cX3_run 50 = .ok (.aload_n 0, 1) := by decide +kernel
theorem dX3_run_51 : decode cX3_run 51 = .ok (.getfield 135, 3) := by decide +kernel
theorem dX3_run_54 : decode cX3_run 54 = .ok (.invokevirtual 127, 3) := by decide +kernel
theorem dX3_run_57 : decode cX3_run 57 = .ok (.invokevirtual 93, 3) := by decide +kernel
theorem dX3_run_60 : decode cX3_run 60 = .ok (.pop, 1) := by decide +kernel
theorem dX3_run_61 : decode cX3_run 61 = .ok (.aload_n 0, 1) := by decide +kernel
theorem dX3_run_62 : decode cX3_run 62 = .ok (.dup, 1) := by decide +kernel
theorem dX3_run_63 : decode cX3_run 63 = .ok (.getfield 135, 3) := by decide +kernel
theorem dX3_run_66 : decode cX3_run 66 = .ok (.iconst 1, 1) := by decide +kernel
theorem dX3_run_67 : decode cX3_run 67 = .ok (.iadd, 1) := by decide +kernel
theorem dX3_run_68 : decode cX3_run 68 = .ok (.putfield 135, 3) := by decide +kernel
theorem dX3_run_71 : decode cX3_run 71 = .ok (.iinc 3 1, 3) := by decide +kernel
theorem dX3_run_74 : decode cX3_run 74 = .ok (.goto (-34), 3) := by decide +kernel
theorem dX3_run_77 : decode cX3_run 77 = .ok (.iload_n 2, 1) := by decide +kernel
theorem dX3_run_78 : decode cX3_run 78 = .ok (.ireturn, 1) := by decide +kernel
set_option maxRecDepth 20000 in
theorem ggX3_wind_X0_size : GoodIn wsX3_wind wsX0_size := goodIn_r _ [9, 10, 21, 22] (by decide +kernel) (by decide +kernel)
set_option maxRecDepth 20000 in
theorem gX3_wind_X0_size : GoodIn wsX3_wind (wsV RX3 107 RX0 yX0_size wsX0_size) := goodIn_app (goodIn_of _ (by decide +kernel)) ggX3_wind_X0_size
theorem dX3_wind_0 : decode cX3_wind 0 = .ok (.iload_n 1, 1) := by decide +kernel
theorem dX3_wind_1 : decode cX3_wind 1 = .ok (.ifCond .lt 14, 3) := by decide +kernel
theorem dX3_wind_4 : decode cX3_wind 4 = .ok (.iload_n 1, 1) := by decide +kernel
theorem dX3_wind_5 : decode cX3_wind 5 = .ok (.aload_n 0, 1) := by decide +kernel
theorem dX3_wind_6 : decode cX3_wind 6 = .ok (.getfield 28, 3) := by decide +kernel
theorem dX3_wind_9 : decode cX3_wind 9 = .ok (.invokevirtual 107, 3) := by decide +kernel
theorem dX3_wind_12 : decode cX3_wind 12 = .ok (.if_icmp .le 13, 3) := by decide +kernel
theorem dX3_wind_15 : decode cX3_wind 15 = .ok (.new 36, 3) := by decide +kernel
theorem dX3_wind_18 : decode cX3_wind 18 = .ok (.dup, 1) := by decide +kernel
theorem dX3_wind_19 : decode cX3_wind 19 = .ok (.ldc 125, 2) := by decide +kernel
theorem dX3_wind_21 : decode cX3_wind 21 = .ok (.invokespecial 40, 3) := by decide +kernel
theorem dX3_wind_24 : decode cX3_wind 24 = .ok (.athrow, 1) := by decide +kernel
theorem dX3_wind_25 : decode cX3_wind 25 = .ok (.aload_n 0, 1) := by decide +kernel
theorem dX3_wind_26 : decode cX3_wind 26 = .ok (.getfield 135, 3) := by decide +kernel
theorem dX3_wind_29 : decode cX3_wind 29 = .ok (.istore_n 2, 1) := by decide +kernel
theorem dX3_wind_30 : decode cX3_wind 30 = .ok (.aload_n 0, 1) := by decide +kernel
theorem dX3_wind_31 : decode cX3_wind 31 = .ok (.iload_n 1, 1) := by decide +kernel
theorem dX3_wind_32 : decode cX3_wind 32 = .ok (.putfield 135, 3) := by decide +kernel
theorem dX3_wind_35 : decode cX3_wind 35 = .ok (.iload_n 2, 1) := by decide +kernel
theorem dX3_wind_36 : decode cX3_wind 36 = .ok (.ireturn, 1) := by decide +kernel
set_option maxRecDepth 20000 in
theorem ggX3_tape_X0_has : GoodIn wsX3_tape wsX0_has := goodIn_r _ [8, 9, 10, 26, 27] (by decide +kernel) (by decide +kernel)
set_option maxRecDepth 20000 in
theorem gX3_tape_X0_has : GoodIn wsX3_tape (wsV RX3 122 RX0 yX0_has wsX0_has) := goodIn_app (goodIn_of _ (by decide +kernel)) ggX3_tape_X0_has
set_option maxRecDepth 20000 in
theorem ggX3_tape_X0_at : GoodIn wsX3_tape wsX0_at := goodIn_r _ [14, 10, 15, 5, 6, 7, 8, 9, 26, 27] (by decide +kernel) (by decide +kernel)
set_option maxRecDepth 20000 in
theorem gX3_tape_X0_at : GoodIn wsX3_tape (wsV RX3 127 RX0 yX0_at wsX0_at) := goodIn_app (goodIn_of _ (by decide +kernel)) ggX3_tape_X0_at
theorem dX3_tape_0 : decode cX3_tape 0 = .ok (.aload_n 0, 1) := by decide +kernel
theorem dX3_tape_1 : decode cX3_tape 1 = .ok (.getfield 28, 3) := by decide +kernel
theorem dX3_tape_4 : decode cX3_tape 4 = .ok (.iload_n 1, 1) := by decide +kernel
theorem dX3_tape_5 : decode cX3_tape 5 = .ok (.invokevirtual 122, 3) := by decide +kernel
theorem dX3_tape_8 : decode cX3_tape 8 = .ok (.ifCond .ne 13, 3) := by decide +kernel
theorem dX3_tape_11 : decode cX3_tape 11 = .ok (.new 36, 3) := by decide +kernel
theorem dX3_tape_14 : decode cX3_tape 14 = .ok (.dup, 1) := by decide +kernel
theorem dX3_tape_15 : decode cX3_tape 15 = .ok (.ldc 125, 2) := by decide +kernel
theorem dX3_tape_17 : decode cX3_tape 17 = .ok (.invokespecial 40, 3) := by decide +kernel
theorem dX3_tape_20 : decode cX3_tape 20 = .ok (.athrow, 1) := by decide +kernel
theorem dX3_tape_21 : decode cX3_tape 21 = .ok (.aload_n 0, 1) := by decide +kernel
theorem dX3_tape_22 : decode cX3_tape 22 = .ok (.getfield 28, 3) := by decide +kernel
theorem dX3_tape_25 : decode cX3_tape 25 = .ok (.iload_n 1, 1) := by decide +kernel
theorem dX3_tape_26 : decode cX3_tape 26 = .ok (.invokevirtual 127, 3) := by decide +kernel
theorem dX3_tape_29 : decode cX3_tape 29 = .ok (.ireturn, 1) := by decide +kernel
set_option maxRecDepth 20000 in
theorem ggX3_page_X1_row : GoodIn wsX3_page wsX1_row := goodIn_r _ [8, 9, 10, 11, 34, 35, 36] (by decide +kernel) (by decide +kernel)
set_option maxRecDepth 20000 in
theorem gX3_page_X1_row : GoodIn wsX3_page (wsV RX3 145 RX1 yX1_row wsX1_row) := goodIn_app (goodIn_of _ (by decide +kernel)) ggX3_page_X1_row
set_option maxRecDepth 20000 in
theorem ggX3_page_X0_has : GoodIn wsX3_page wsX0_has := goodIn_r _ [16, 17, 18, 37, 38] (by decide +kernel) (by decide +kernel)
set_option maxRecDepth 20000 in
theorem gX3_page_X0_has : GoodIn wsX3_page (wsV RX3 122 RX0 yX0_has wsX0_has) := goodIn_app (goodIn_of _ (by decide +kernel)) ggX3_page_X0_has
set_option maxRecDepth 20000 in
theorem ggX3_page_X0_at : GoodIn wsX3_page wsX0_at := goodIn_r _ [22, 18, 23, 13, 14, 15, 16, 17, 37, 38] (by decide +kernel) (by decide +kernel)
set_option maxRecDepth 20000 in
theorem gX3_page_X0_at : GoodIn wsX3_page (wsV RX3 127 RX0 yX0_at wsX0_at) := goodIn_app (goodIn_of _ (by decide +kernel)) ggX3_page_X0_at
theorem dX3_page_0 : decode cX3_page 0 = .ok (.aload_n 0, 1) := by decide +kernel
theorem dX3_page_1 : decode cX3_page 1 = .ok (.getfield 19, 3) := by decide +kernel
theorem dX3_page_4 : decode cX3_page 4 = .ok (.iload_n 1, 1) := by decide +kernel
theorem dX3_page_5 : decode cX3_page 5 = .ok (.invokevirtual 145, 3) := by decide +kernel
theorem dX3_page_8 : decode cX3_page 8 = .ok (.astore_n 3, 1) := by decide +kernel
theorem dX3_page_9 : decode cX3_page 9 = .ok (.aload_n 3, 1) := by decide +kernel
theorem dX3_page_10 : decode cX3_page 10 = .ok (.ifnull 11, 3) := by decide +kernel
theorem dX3_page_13 : decode cX3_page 13 = .ok (.aload_n 3, 1) := by decide +kernel
theorem dX3_page_14 : decode cX3_page 14 = .ok (.iload_n 2, 1) := by decide +kernel
theorem dX3_page_15 : decode cX3_page 15 = .ok (.invokevirtual 122, 3) := by decide +kernel
theorem dX3_page_18 : decode cX3_page 18 = .ok (.ifCond .ne 13, 3) := by decide +kernel
theorem dX3_page_21 : decode cX3_page 21 = .ok (.new 36, 3) := by decide +kernel
theorem dX3_page_24 : decode cX3_page 24 = .ok (.dup, 1) := by decide +kernel
theorem dX3_page_25 : decode cX3_page 25 = .ok (.ldc 149, 2) := by decide +kernel
theorem dX3_page_27 : decode cX3_page 27 = .ok (.invokespecial 40, 3) := by decide +kernel
theorem dX3_page_30 : decode cX3_page 30 = .ok (.athrow, 1) := by decide +kernel
theorem dX3_page_31 : decode cX3_page 31 = .ok (.aload_n 3, 1) := by decide +kernel
theorem dX3_page_32 : decode cX3_page 32 = .ok (.iload_n 2, 1) := by decide +kernel
theorem dX3_page_33 : decode cX3_page 33 = .ok (.invokevirtual 127, 3) := by decide +kernel
theorem dX3_page_36 : decode cX3_page 36 = .ok (.ireturn, 1) := by decide +kernel
set_option maxRecDepth 20000 in
theorem ggX3_length_X1_row : GoodIn wsX3_length wsX1_row := goodIn_r _ [8, 9, 10, 11, 28, 29, 30] (by decide +kernel) (by decide +kernel)
set_option maxRecDepth 20000 in
theorem gX3_length_X1_row : GoodIn wsX3_length (wsV RX3 145 RX1 yX1_row wsX1_row) := goodIn_app (goodIn_of _ (by decide +kernel)) ggX3_length_X1_row
set_option maxRecDepth 20000 in
theorem ggX3_length_X0_size : GoodIn wsX3_length wsX0_size := goodIn_r _ [16, 17, 31, 32] (by decide +kernel) (by decide +kernel)
set_option maxRecDepth 20000 in
theorem gX3_length_X0_size : GoodIn wsX3_length (wsV RX3 107 RX0 yX0_size wsX0_size) := goodIn_app (goodIn_of _ (by decide +kernel)) ggX3_length_X0_size
theorem dX3_length_0 : decode cX3_length 0 = .ok (.aload_n 0, 1) := by decide +kernel
theorem dX3_length_1 : decode cX3_length 1 = .ok (.getfield 19, 3) := by decide +kernel
theorem dX3_length_4 : decode cX3_length 4 = .ok (.iload_n 1, 1) := by decide +kernel
theorem dX3_length_5 : decode cX3_length 5 = .ok (.invokevirtual 145, 3) := by decide +kernel
theorem dX3_length_8 : decode cX3_length 8 = .ok (.astore_n 2, 1) := by decide +kernel
theorem dX3_length_9 : decode cX3_length 9 = .ok (.aload_n 2, 1) := by decide +kernel
theorem dX3_length_10 : decode cX3_length 10 = .ok (.ifnonnull 13, 3) := by decide +kernel
theorem dX3_length_13 : decode cX3_length 13 = .ok (.new 36, 3) := by decide +kernel
theorem dX3_length_16 : decode cX3_length 16 = .ok (.dup, 1) := by decide +kernel
theorem dX3_length_17 : decode cX3_length 17 = .ok (.ldc 151, 2) := by decide +kernel
theorem dX3_length_19 : decode cX3_length 19 = .ok (.invokespecial 40, 3) := by decide +kernel
theorem dX3_length_22 : decode cX3_length 22 = .ok (.athrow, 1) := by decide +kernel
theorem dX3_length_23 : decode cX3_length 23 = .ok (.aload_n 2, 1) := by decide +kernel
theorem dX3_length_24 : decode cX3_length 24 = .ok (.invokevirtual 107, 3) := by decide +kernel
theorem dX3_length_27 : decode cX3_length 27 = .ok (.ireturn, 1) := by decide +kernel
set_option maxRecDepth 20000 in
theorem ggX3_count_X3_counted : GoodIn wsX3_count wsX3_counted := goodIn_r _ [7, 8, 9, 10, 11, 12, 13, 14, 15, 16, 17, 18, 19, 20, 21, 22, 23, 24, 25, 26, 27, 28, 29, 30, 31, 32, 33, 34, 35, 36, 37, 38, 39, 40, 41, 42, 43, 44, 45, 46, 47, 48, 49, 50, 51, 52, 53, 54, 55, 56, 57, 58, 59, 60, 61, 62, 63, 64] (by decide +kernel) (by decide +kernel)
set_option maxRecDepth 20000 in
theorem gX3_count_X3_counted : GoodIn wsX3_count (wsV RX3 155 RX3 yX3_counted wsX3_counted) := goodIn_app (goodIn_of _ (by decide +kernel)) ggX3_count_X3_counted
theorem dX3_count_0 : decode cX3_count 0 = .ok (.iload_n 1, 1) := by decide +kernel
theorem dX3_count_1 : decode cX3_count 1 = .ok (.ifCond .lt 9, 3) := by decide +kernel
theorem dX3_count_4 : decode cX3_count 4 = .ok (.iload_n 1, 1) := by decide +kernel
theorem dX3_count_5 : decode cX3_count 5 = .ok (.bipush 10, 2) := by decide +kernel
theorem dX3_count_7 : decode cX3_count 7 = .ok (.if_icmp .le 13, 3) := by decide +kernel
theorem dX3_count_10 : decode cX3_count 10 = .ok (.new 36, 3) := by decide +kernel
theorem dX3_count_13 : decode cX3_count 13 = .ok (.dup, 1) := by decide +kernel
theorem dX3_count_14 : decode cX3_count 14 = .ok (.ldc 153, 2) := by decide +kernel
theorem dX3_count_16 : decode cX3_count 16 = .ok (.invokespecial 40, 3) := by decide +kernel
theorem dX3_count_19 : decode cX3_count 19 = .ok (.athrow, 1) := by decide +kernel
theorem dX3_count_20 : decode cX3_count 20 = .ok (.aload_n 0, 1) := by decide +kernel
theorem dX3_count_21 : decode cX3_count 21 = .ok (.iload_n 1, 1) := by decide +kernel
theorem dX3_count_22 : decode cX3_count 22 = .ok (.invokevirtual 155, 3) := by decide +kernel
theorem dX3_count_25 : decode cX3_count 25 = .ok (.ireturn, 1) := by decide +kernel
set_option maxRecDepth 20000 in
theorem ggX3_would_X3_isCode : GoodIn wsX3_would wsX3_isCode := goodIn_r _ [8] (by decide +kernel) (by decide +kernel)
set_option maxRecDepth 20000 in
theorem gX3_would_X3_isCode : GoodIn wsX3_would (va_wsS RX3 47 yX3_isCode wsX3_isCode) := goodIn_app (goodIn_of _ (by decide +kernel)) ggX3_would_X3_isCode
set_option maxRecDepth 20000 in
theorem ggX3_would_X2_readAs : GoodIn wsX3_would wsX2_readAs := goodIn_r _ [13, 14, 15, 16, 17, 18, 19, 20, 21, 22, 23, 24, 25, 26, 27, 38, 39, 40, 41, 42] (by decide +kernel) (by decide +kernel)
set_option maxRecDepth 20000 in
theorem gX3_would_X2_readAs : GoodIn wsX3_would (wsV RX3 161 RX2 yX2_readAs wsX2_readAs) := goodIn_app (goodIn_of _ (by decide +kernel)) ggX3_would_X2_readAs
theorem dX3_would_0 : decode cX3_would 0 = .ok (.iload_n 1, 1) := by decide +kernel
theorem dX3_would_1 : decode cX3_would 1 = .ok (.invokestatic 47, 3) := by decide +kernel
theorem dX3_would_4 : decode cX3_would 4 = .ok (.ifCond .ne 13, 3) := by decide +kernel
theorem dX3_would_7 : decode cX3_would 7 = .ok (.new 36, 3) := by decide +kernel
theorem dX3_would_10 : decode cX3_would 10 = .ok (.dup, 1) := by decide +kernel
theorem dX3_would_11 : decode cX3_would 11 = .ok (.ldc 50, 2) := by decide +kernel
theorem dX3_would_13 : decode cX3_would 13 = .ok (.invokespecial 40, 3) := by decide +kernel
theorem dX3_would_16 : decode cX3_would 16 = .ok (.athrow, 1) := by decide +kernel
theorem dX3_would_17 : decode cX3_would 17 = .ok (.aload_n 0, 1) := by decide +kernel
theorem dX3_would_18 : decode cX3_would 18 = .ok (.getfield 10, 3) := by decide +kernel
theorem dX3_would_21 : decode cX3_would 21 = .ok (.iload_n 1, 1) := by decide +kernel
theorem dX3_would_22 : decode cX3_would 22 = .ok (.aload_n 0, 1) := by decide +kernel
theorem dX3_would_23 : decode cX3_would 23 = .ok (.getfield 158, 3) := by decide +kernel
theorem dX3_would_26 : decode cX3_would 26 = .ok (.invokevirtual 161, 3) := by decide +kernel
theorem dX3_would_29 : decode cX3_would 29 = .ok (.ireturn, 1) := by decide +kernel
set_option maxRecDepth 20000 in
theorem ggX3_wrong_X0_size : GoodIn wsX3_wrong wsX0_size := goodIn_r _ [9, 10, 39, 40] (by decide +kernel) (by decide +kernel)
set_option maxRecDepth 20000 in
theorem gX3_wrong_X0_size : GoodIn wsX3_wrong (wsV RX3 107 RX0 yX0_size wsX0_size) := goodIn_app (goodIn_of _ (by decide +kernel)) ggX3_wrong_X0_size
set_option maxRecDepth 20000 in
theorem ggX3_wrong_X0_at : GoodIn wsX3_wrong wsX0_at := goodIn_r _ [14, 15, 16, 17, 18, 8, 19, 10, 39, 40] (by decide +kernel) (by decide +kernel)
set_option maxRecDepth 20000 in
theorem gX3_wrong_X0_at : GoodIn wsX3_wrong (wsV RX3 127 RX0 yX0_at wsX0_at) := goodIn_app (goodIn_of _ (by decide +kernel)) ggX3_wrong_X0_at
set_option maxRecDepth 20000 in
theorem ggX3_wrong_X2_readAs : GoodIn wsX3_wrong wsX2_readAs := goodIn_r _ [24, 25, 26, 27, 28, 12, 13, 8, 14, 15, 16, 17, 18, 19, 10, 41, 42, 43, 39, 40] (by decide +kernel) (by decide +kernel)
set_option maxRecDepth 20000 in
theorem gX3_wrong_X2_readAs : GoodIn wsX3_wrong (wsV RX3 161 RX2 yX2_readAs wsX2_readAs) := goodIn_app (goodIn_of _ (by decide +kernel)) ggX3_wrong_X2_readAs
theorem dX3_wrong_0 : decode cX3_wrong 0 = .ok (.iconst 0, 1) := by decide +kernel
theorem dX3_wrong_1 : decode cX3_wrong 1 = .ok (.istore_n 1, 1) := by decide +kernel
theorem dX3_wrong_2 : decode cX3_wrong 2 = .ok (.aload_n 0, 1) := by decide +kernel
theorem dX3_wrong_3 : decode cX3_wrong 3 = .ok (.getfield 135, 3) := by decide +kernel
theorem dX3_wrong_6 : decode cX3_wrong 6 = .ok (.istore_n 2, 1) := by decide +kernel
theorem dX3_wrong_7 : decode cX3_wrong 7 = .ok (.iload_n 2, 1) := by decide +kernel
theorem dX3_wrong_8 : decode cX3_wrong 8 = .ok (.aload_n 0, 1) := by decide +kernel
theorem dX3_wrong_9 : decode cX3_wrong 9 = .ok (.getfield 28, 3) := by decide +kernel
theorem dX3_wrong_12 : decode cX3_wrong 12 = .ok (.invokevirtual 107, 3) := by decide +kernel
theorem dX3_wrong_15 : decode cX3_wrong 15 = .ok (.if_icmp .ge 44, 3) := by decide +kernel
theorem dX3_wrong_18 : decode cX3_wrong 18 = .ok (.aload_n 0, 1) := by decide +kernel
theorem dX3_wrong_19 : decode cX3_wrong 19 = .ok (.getfield 28, 3) := by decide +kernel
theorem dX3_wrong_22 : decode cX3_wrong 22 = .ok (.iload_n 2, 1) := by decide +kernel
theorem dX3_wrong_23 : decode cX3_wrong 23 = .ok (.invokevirtual 127, 3) := by decide +kernel
theorem dX3_wrong_26 : decode cX3_wrong 26 = .ok (.istore_n 3, 1) := by decide +kernel
theorem dX3_wrong_27 : decode cX3_wrong 27 = .ok (.aload_n 0, 1) := by decide +kernel
theorem dX3_wrong_28 : decode cX3_wrong 28 = .ok (.getfield 10, 3) := by decide +kernel
theorem dX3_wrong_31 : decode cX3_wrong 31 = .ok (.iload_n 3, 1) := by decide +kernel
theorem dX3_wrong_32 : decode cX3_wrong 32 = .ok (.aload_n 0, 1) := by decide +kernel
theorem dX3_wrong_33 : decode cX3_wrong 33 = .ok (.getfield 158, 3) := by decide +kernel
theorem dX3_wrong_36 : decode cX3_wrong 36 = .ok (.iload_n 2, 1) := by decide +kernel
theorem dX3_wrong_37 : decode cX3_wrong 37 = .ok (.iadd, 1) := by decide +kernel
theorem dX3_wrong_38 : decode cX3_wrong 38 = .ok (.aload_n 0, 1) := by decide +kernel
theorem dX3_wrong_39 : decode cX3_wrong 39 = .ok (.getfield 135, 3) := by decide +kernel
theorem dX3_wrong_42 : decode cX3_wrong 42 = .ok (.isub, 1) := by decide +kernel
theorem dX3_wrong_43 : decode cX3_wrong 43 = .ok (.invokevirtual 161, 3) := by decide +kernel
theorem dX3_wrong_46 : decode cX3_wrong 46 = .ok (.iload_n 3, 1) := by decide +kernel
theorem dX3_wrong_47 : decode cX3_wrong 47 = .ok (.if_icmp .eq 6, 3) := by decide +kernel
theorem dX3_wrong_50 : decode cX3_wrong 50 = .ok (.iinc 1 1, 3) := by decide +kernel
theorem dX3_wrong_53 : decode cX3_wrong 53 = .ok (.iinc 2 1, 3) := by decide +kernel
theorem dX3_wrong_56 : decode cX3_wrong 56 = .ok (.goto (-49), 3) := by decide +kernel
theorem dX3_wrong_59 : decode cX3_wrong 59 = .ok (.iload_n 1, 1) := by decide +kernel
theorem dX3_wrong_60 : decode cX3_wrong 60 = .ok (.ireturn, 1) := by decide +kernel
set_option maxRecDepth 20000 in
theorem ggX3_idle_X0_size : GoodIn wsX3_idle wsX0_size := goodIn_r _ [6, 7, 51, 52] (by decide +kernel) (by decide +kernel)
set_option maxRecDepth 20000 in
theorem gX3_idle_X0_size : GoodIn wsX3_idle (wsV RX3 107 RX0 yX0_size wsX0_size) := goodIn_app (goodIn_of _ (by decide +kernel)) ggX3_idle_X0_size
set_option maxRecDepth 20000 in
theorem ggX3_idle_X0_at : GoodIn wsX3_idle wsX0_at := goodIn_r _ [11, 12, 13, 14, 15, 5, 16, 7, 51, 52] (by decide +kernel) (by decide +kernel)
set_option maxRecDepth 20000 in
theorem gX3_idle_X0_at : GoodIn wsX3_idle (wsV RX3 127 RX0 yX0_at wsX0_at) := goodIn_app (goodIn_of _ (by decide +kernel)) ggX3_idle_X0_at
set_option maxRecDepth 20000 in
theorem ggX3_idle_X3_figuresBehind : GoodIn wsX3_idle wsX3_figuresBehind := goodIn_r _ [21, 22, 23, 24, 20, 25, 26, 41, 42, 43, 44, 45, 46, 47, 48, 49, 50] (by decide +kernel) (by decide +kernel)
set_option maxRecDepth 20000 in
theorem gX3_idle_X3_figuresBehind : GoodIn wsX3_idle (wsV RX3 164 RX3 yX3_figuresBehind wsX3_figuresBehind) := goodIn_app (goodIn_of _ (by decide +kernel)) ggX3_idle_X3_figuresBehind
set_option maxRecDepth 20000 in
theorem ggX3_idle_X3_isShift : GoodIn wsX3_idle wsX3_isShift := goodIn_r _ [29] (by decide +kernel) (by decide +kernel)
set_option maxRecDepth 20000 in
theorem gX3_idle_X3_isShift : GoodIn wsX3_idle (va_wsS RX3 168 yX3_isShift wsX3_isShift) := goodIn_app (goodIn_of _ (by decide +kernel)) ggX3_idle_X3_isShift
set_option maxRecDepth 20000 in
theorem ggX3_idle_X3_servesBehind : GoodIn wsX3_idle wsX3_servesBehind := goodIn_r _ [33, 1, 2, 3, 4, 5, 6, 7, 8, 9, 10, 11, 12, 13, 14, 15, 16, 34, 35, 20, 36, 37, 38, 39, 40, 22, 23, 24, 25, 26, 41, 42, 43, 44, 45, 46, 47, 48, 49, 50, 51, 52] (by decide +kernel) (by decide +kernel)
set_option maxRecDepth 20000 in
theorem gX3_idle_X3_servesBehind : GoodIn wsX3_idle (wsV RX3 171 RX3 yX3_servesBehind wsX3_servesBehind) := goodIn_app (goodIn_of _ (by decide +kernel)) ggX3_idle_X3_servesBehind
theorem dX3_idle_0 : decode cX3_idle 0 = .ok (.iconst 0, 1) := by decide +kernel
theorem dX3_idle_1 : decode cX3_idle 1 = .ok (.istore_n 1, 1) := by decide +kernel
theorem dX3_idle_2 : decode cX3_idle 2 = .ok (.iconst 0, 1) := by decide +kernel
theorem dX3_idle_3 : decode cX3_idle 3 = .ok (.istore_n 2, 1) := by decide +kernel
theorem dX3_idle_4 : decode cX3_idle 4 = .ok (.iconst 0, 1) := by decide +kernel
theorem dX3_idle_5 : decode cX3_idle 5 = .ok (.istore_n 3, 1) := by decide +kernel
theorem dX3_idle_6 : decode cX3_idle 6 = .ok (.iload_n 3, 1) := by decide +kernel
theorem dX3_idle_7 : decode cX3_idle 7 = .ok (.aload_n 0, 1) := by decide +kernel
theorem dX3_idle_8 : decode cX3_idle 8 = .ok (.getfield 28, 3) := by decide +kernel
theorem dX3_idle_11 : decode cX3_idle 11 = .ok (.invokevirtual 107, 3) := by decide +kernel
theorem dX3_idle_14 : decode cX3_idle 14 = .ok (.if_icmp .ge 56, 3) := by decide +kernel
theorem dX3_idle_17 : decode cX3_idle 17 = .ok (.aload_n 0, 1) := by decide +kernel
theorem dX3_idle_18 : decode cX3_idle 18 = .ok (.getfield 28, 3) := by decide +kernel
theorem dX3_idle_21 : decode cX3_idle 21 = .ok (.iload_n 3, 1) := by decide +kernel
theorem dX3_idle_22 : decode cX3_idle 22 = .ok (.invokevirtual 127, 3) := by decide +kernel
theorem dX3_idle_25 : decode cX3_idle 25 = .ok (.istore 4, 2) := by decide +kernel
theorem dX3_idle_27 : decode cX3_idle 27 = .ok (.aload_n 0, 1) := by decide +kernel
theorem dX3_idle_28 : decode cX3_idle 28 = .ok (.iload 4, 2) := by decide +kernel
theorem dX3_idle_30 : decode cX3_idle 30 = .ok (.iload_n 2, 1) := by decide +kernel
theorem dX3_idle_31 : decode cX3_idle 31 = .ok (.invokevirtual 164, 3) := by decide +kernel
theorem dX3_idle_34 : decode cX3_idle 34 = .ok (.istore 5, 2) := by decide +kernel
theorem dX3_idle_36 : decode cX3_idle 36 = .ok (.iload 4, 2) := by decide +kernel
theorem dX3_idle_38 : decode cX3_idle 38 = .ok (.invokestatic 168, 3) := by decide +kernel
theorem dX3_idle_41 : decode cX3_idle 41 = .ok (.ifCond .eq 20, 3) := by decide +kernel
theorem dX3_idle_44 : decode cX3_idle 44 = .ok (.iload 5, 2) := by decide +kernel
theorem dX3_idle_46 : decode cX3_idle 46 = .ok (.iload_n 2, 1) := by decide +kernel
theorem dX3_idle_47 : decode cX3_idle 47 = .ok (.if_icmp .eq 11, 3) := by decide +kernel
theorem dX3_idle_50 : decode cX3_idle 50 = .ok (.aload_n 0, 1) := by decide +kernel
theorem dX3_idle_51 : decode cX3_idle 51 = .ok (.iload_n 3, 1) := by decide +kernel
theorem dX3_idle_52 : decode cX3_idle 52 = .ok (.invokevirtual 171, 3) := by decide +kernel
theorem dX3_idle_55 : decode cX3_idle 55 = .ok (.ifCond .ne 6, 3) := by decide +kernel
theorem dX3_idle_58 : decode cX3_idle 58 = .ok (.iinc 1 1, 3) := by decide +kernel
theorem dX3_idle_61 : decode cX3_idle 61 = .ok (.iload 5, 2) := by decide +kernel
theorem dX3_idle_63 : decode cX3_idle 63 = .ok (.istore_n 2, 1) := by decide +kernel
theorem dX3_idle_64 : decode cX3_idle 64 = .ok (.iinc 3 1, 3) := by decide +kernel
theorem dX3_idle_67 : decode cX3_idle 67 = .ok (.goto (-61), 3) := by decide +kernel
theorem dX3_idle_70 : decode cX3_idle 70 = .ok (.iload_n 1, 1) := by decide +kernel
theorem dX3_idle_71 : decode cX3_idle 71 = .ok (.ireturn, 1) := by decide +kernel
set_option maxRecDepth 20000 in
theorem ggX3_prints_X0_has : GoodIn wsX3_prints wsX0_has := goodIn_r _ [8, 9, 10, 54, 55] (by decide +kernel) (by decide +kernel)
set_option maxRecDepth 20000 in
theorem gX3_prints_X0_has : GoodIn wsX3_prints (wsV RX3 122 RX0 yX0_has wsX0_has) := goodIn_app (goodIn_of _ (by decide +kernel)) ggX3_prints_X0_has
set_option maxRecDepth 20000 in
theorem ggX3_prints_X0_at : GoodIn wsX3_prints wsX0_at := goodIn_r _ [14, 10, 15, 5, 6, 7, 8, 9, 54, 55] (by decide +kernel) (by decide +kernel)
set_option maxRecDepth 20000 in
theorem gX3_prints_X0_at : GoodIn wsX3_prints (wsV RX3 127 RX0 yX0_at wsX0_at) := goodIn_app (goodIn_of _ (by decide +kernel)) ggX3_prints_X0_at
set_option maxRecDepth 20000 in
theorem ggX3_prints_X3_figuresAhead : GoodIn wsX3_prints wsX3_figuresAhead := goodIn_r _ [20, 3, 21, 22, 23, 7, 24, 9, 11, 12, 13, 14, 10, 15, 5, 6, 8, 25, 26, 27, 19, 28, 29, 30, 31, 32, 33, 44, 45, 46, 47, 48, 49, 50, 51, 52, 53, 54, 55] (by decide +kernel) (by decide +kernel)
set_option maxRecDepth 20000 in
theorem gX3_prints_X3_figuresAhead : GoodIn wsX3_prints (wsV RX3 174 RX3 yX3_figuresAhead wsX3_figuresAhead) := goodIn_app (goodIn_of _ (by decide +kernel)) ggX3_prints_X3_figuresAhead
set_option maxRecDepth 20000 in
theorem ggX3_prints_X3_characterOf : GoodIn wsX3_prints wsX3_characterOf := goodIn_r _ [36, 37, 38, 19, 39, 40, 41, 42, 43] (by decide +kernel) (by decide +kernel)
set_option maxRecDepth 20000 in
theorem gX3_prints_X3_characterOf : GoodIn wsX3_prints (va_wsS RX3 52 yX3_characterOf wsX3_characterOf) := goodIn_app (goodIn_of _ (by decide +kernel)) ggX3_prints_X3_characterOf
theorem dX3_prints_0 : decode cX3_prints 0 = .ok (.aload_n 0, 1) := by decide +kernel
theorem dX3_prints_1 : decode cX3_prints 1 = .ok (.getfield 28, 3) := by decide +kernel
theorem dX3_prints_4 : decode cX3_prints 4 = .ok (.iload_n 1, 1) := by decide +kernel
theorem dX3_prints_5 : decode cX3_prints 5 = .ok (.invokevirtual 122, 3) := by decide +kernel
theorem dX3_prints_8 : decode cX3_prints 8 = .ok (.ifCond .ne 13, 3) := by decide +kernel
theorem dX3_prints_11 : decode cX3_prints 11 = .ok (.new 36, 3) := by decide +kernel
theorem dX3_prints_14 : decode cX3_prints 14 = .ok (.dup, 1) := by decide +kernel
theorem dX3_prints_15 : decode cX3_prints 15 = .ok (.ldc 125, 2) := by decide +kernel
theorem dX3_prints_17 : decode cX3_prints 17 = .ok (.invokespecial 40, 3) := by decide +kernel
theorem dX3_prints_20 : decode cX3_prints 20 = .ok (.athrow, 1) := by decide +kernel
theorem dX3_prints_21 : decode cX3_prints 21 = .ok (.aload_n 0, 1) := by decide +kernel
theorem dX3_prints_22 : decode cX3_prints 22 = .ok (.getfield 28, 3) := by decide +kernel
theorem dX3_prints_25 : decode cX3_prints 25 = .ok (.iload_n 1, 1) := by decide +kernel
theorem dX3_prints_26 : decode cX3_prints 26 = .ok (.invokevirtual 127, 3) := by decide +kernel
theorem dX3_prints_29 : decode cX3_prints 29 = .ok (.aload_n 0, 1) := by decide +kernel
theorem dX3_prints_30 : decode cX3_prints 30 = .ok (.iload_n 1, 1) := by decide +kernel
theorem dX3_prints_31 : decode cX3_prints 31 = .ok (.invokevirtual 174, 3) := by decide +kernel
theorem dX3_prints_34 : decode cX3_prints 34 = .ok (.invokestatic 52, 3) := by decide +kernel
theorem dX3_prints_37 : decode cX3_prints 37 = .ok (.ireturn, 1) := by decide +kernel
set_option maxRecDepth 20000 in
theorem ggX3_mean_X1_lines : GoodIn wsX3_mean wsX1_lines := goodIn_r _ [6, 7, 34, 35, 36] (by decide +kernel) (by decide +kernel)
set_option maxRecDepth 20000 in
theorem gX3_mean_X1_lines : GoodIn wsX3_mean (wsV RX3 177 RX1 yX1_lines wsX1_lines) := goodIn_app (goodIn_of _ (by decide +kernel)) ggX3_mean_X1_lines
set_option maxRecDepth 20000 in
theorem ggX3_mean_X1_characters : GoodIn wsX3_mean wsX1_characters := goodIn_r _ [11, 7, 12, 13, 14, 5, 15, 16, 17, 18, 19, 20, 21, 22, 23, 34, 35, 36, 37, 38] (by decide +kernel) (by decide +kernel)
set_option maxRecDepth 20000 in
theorem gX3_mean_X1_characters : GoodIn wsX3_mean (wsV RX3 180 RX1 yX1_characters wsX1_characters) := goodIn_app (goodIn_of _ (by decide +kernel)) ggX3_mean_X1_characters
theorem dX3_mean_0 : decode cX3_mean 0 = .ok (.aload_n 0, 1) := by decide +kernel
theorem dX3_mean_1 : decode cX3_mean 1 = .ok (.getfield 19, 3) := by decide +kernel
theorem dX3_mean_4 : decode cX3_mean 4 = .ok (.invokevirtual 177, 3) := by decide +kernel
theorem dX3_mean_7 : decode cX3_mean 7 = .ok (.istore_n 1, 1) := by decide +kernel
theorem dX3_mean_8 : decode cX3_mean 8 = .ok (.iload_n 1, 1) := by decide +kernel
theorem dX3_mean_9 : decode cX3_mean 9 = .ok (.iconst 1, 1) := by decide +kernel
theorem dX3_mean_10 : decode cX3_mean 10 = .ok (.if_icmp .ge 7, 3) := by decide +kernel
theorem dX3_mean_13 : decode cX3_mean 13 = .ok (.dconst 0, 1) := by decide +kernel
theorem dX3_mean_14 : decode cX3_mean 14 = .ok (.goto 14, 3) := by decide +kernel
theorem dX3_mean_17 : decode cX3_mean 17 = .ok (.aload_n 0, 1) := by decide +kernel
theorem dX3_mean_18 : decode cX3_mean 18 = .ok (.getfield 19, 3) := by decide +kernel
theorem dX3_mean_21 : decode cX3_mean 21 = .ok (.invokevirtual 180, 3) := by decide +kernel
theorem dX3_mean_24 : decode cX3_mean 24 = .ok (.i2d, 1) := by decide +kernel
theorem dX3_mean_25 : decode cX3_mean 25 = .ok (.iload_n 1, 1) := by decide +kernel
theorem dX3_mean_26 : decode cX3_mean 26 = .ok (.i2d, 1) := by decide +kernel
theorem dX3_mean_27 : decode cX3_mean 27 = .ok (.ddiv, 1) := by decide +kernel
theorem dX3_mean_28 : decode cX3_mean 28 = .ok (.dreturn, 1) := by decide +kernel
set_option maxRecDepth 20000 in
theorem ggX3_counted_X1_lines : GoodIn wsX3_counted wsX1_lines := goodIn_r _ [15, 16, 50, 51, 52] (by decide +kernel) (by decide +kernel)
set_option maxRecDepth 20000 in
theorem gX3_counted_X1_lines : GoodIn wsX3_counted (wsV RX3 177 RX1 yX1_lines wsX1_lines) := goodIn_app (goodIn_of _ (by decide +kernel)) ggX3_counted_X1_lines
set_option maxRecDepth 20000 in
theorem ggX3_counted_X1_characters : GoodIn wsX3_counted wsX1_characters := goodIn_r _ [20, 16, 21, 22, 23, 14, 24, 25, 26, 27, 28, 29, 30, 31, 32, 50, 51, 52, 53, 54] (by decide +kernel) (by decide +kernel)
set_option maxRecDepth 20000 in
theorem gX3_counted_X1_characters : GoodIn wsX3_counted (wsV RX3 180 RX1 yX1_characters wsX1_characters) := goodIn_app (goodIn_of _ (by decide +kernel)) ggX3_counted_X1_characters
set_option maxRecDepth 20000 in
theorem ggX3_counted_X2_play : GoodIn wsX3_counted wsX2_play := goodIn_r _ [37, 38, 55, 56, 57] (by decide +kernel) (by decide +kernel)
set_option maxRecDepth 20000 in
theorem gX3_counted_X2_play : GoodIn wsX3_counted (wsV RX3 83 RX2 yX2_play wsX2_play) := goodIn_app (goodIn_of _ (by decide +kernel)) ggX3_counted_X2_play
set_option maxRecDepth 20000 in
theorem ggX3_counted_X0_size : GoodIn wsX3_counted wsX0_size := goodIn_r _ [31, 32, 53, 54] (by decide +kernel) (by decide +kernel)
set_option maxRecDepth 20000 in
theorem gX3_counted_X0_size : GoodIn wsX3_counted (wsV RX3 107 RX0 yX0_size wsX0_size) := goodIn_app (goodIn_of _ (by decide +kernel)) ggX3_counted_X0_size
theorem dX3_counted_0 : decode cX3_counted 0 = .ok (.iload_n 1, 1) := by decide +kernel
theorem dX3_counted_1 : decode cX3_counted 1 = .ok (.tableswitch 133 0 9 #[55, 63, 71, 84, 92, 100, 105, 110, 115, 120], 55) := by decide +kernel
theorem dX3_counted_56 : decode cX3_counted 56 = .ok (.aload_n 0, 1) := by decide +kernel
theorem dX3_counted_57 : decode cX3_counted 57 = .ok (.getfield 19, 3) := by decide +kernel
theorem dX3_counted_60 : decode cX3_counted 60 = .ok (.invokevirtual 177, 3) := by decide +kernel
theorem dX3_counted_63 : decode cX3_counted 63 = .ok (.ireturn, 1) := by decide +kernel
theorem dX3_counted_64 : decode cX3_counted 64 = .ok (.aload_n 0, 1) := by decide +kernel
theorem dX3_counted_65 : decode cX3_counted 65 = .ok (.getfield 19, 3) := by decide +kernel
theorem dX3_counted_68 : decode cX3_counted 68 = .ok (.invokevirtual 180, 3) := by decide +kernel
theorem dX3_counted_71 : decode cX3_counted 71 = .ok (.ireturn, 1) := by decide +kernel
theorem dX3_counted_72 : decode cX3_counted 72 = .ok (.aload_n 0, 1) := by decide +kernel
theorem dX3_counted_73 : decode cX3_counted 73 = .ok (.getfield 61, 3) := by decide +kernel
theorem dX3_counted_76 : decode cX3_counted 76 = .ok (.ifCond .eq 7, 3) := by decide +kernel
theorem dX3_counted_79 : decode cX3_counted 79 = .ok (.iconst 1, 1) := by decide +kernel
theorem dX3_counted_80 : decode cX3_counted 80 = .ok (.goto 4, 3) := by decide +kernel
theorem dX3_counted_83 : decode cX3_counted 83 = .ok (.iconst 0, 1) := by decide +kernel
theorem dX3_counted_84 : decode cX3_counted 84 = .ok (.ireturn, 1) := by decide +kernel
theorem dX3_counted_85 : decode cX3_counted 85 = .ok (.aload_n 0, 1) := by decide +kernel
theorem dX3_counted_86 : decode cX3_counted 86 = .ok (.getfield 10, 3) := by decide +kernel
theorem dX3_counted_89 : decode cX3_counted 89 = .ok (.invokevirtual 83, 3) := by decide +kernel
theorem dX3_counted_92 : decode cX3_counted 92 = .ok (.ireturn, 1) := by decide +kernel
theorem dX3_counted_93 : decode cX3_counted 93 = .ok (.aload_n 0, 1) := by decide +kernel
theorem dX3_counted_94 : decode cX3_counted 94 = .ok (.getfield 28, 3) := by decide +kernel
theorem dX3_counted_97 : decode cX3_counted 97 = .ok (.invokevirtual 107, 3) := by decide +kernel
theorem dX3_counted_100 : decode cX3_counted 100 = .ok (.ireturn, 1) := by decide +kernel
theorem dX3_counted_101 : decode cX3_counted 101 = .ok (.aload_n 0, 1) := by decide +kernel
theorem dX3_counted_102 : decode cX3_counted 102 = .ok (.getfield 135, 3) := by decide +kernel
theorem dX3_counted_105 : decode cX3_counted 105 = .ok (.ireturn, 1) := by decide +kernel
theorem dX3_counted_106 : decode cX3_counted 106 = .ok (.aload_n 0, 1) := by decide +kernel
theorem dX3_counted_107 : decode cX3_counted 107 = .ok (.getfield 158, 3) := by decide +kernel
theorem dX3_counted_110 : decode cX3_counted 110 = .ok (.ireturn, 1) := by decide +kernel
theorem dX3_counted_111 : decode cX3_counted 111 = .ok (.aload_n 0, 1) := by decide +kernel
theorem dX3_counted_112 : decode cX3_counted 112 = .ok (.getfield 198, 3) := by decide +kernel
theorem dX3_counted_115 : decode cX3_counted 115 = .ok (.ireturn, 1) := by decide +kernel
theorem dX3_counted_116 : decode cX3_counted 116 = .ok (.aload_n 0, 1) := by decide +kernel
theorem dX3_counted_117 : decode cX3_counted 117 = .ok (.getfield 201, 3) := by decide +kernel
theorem dX3_counted_120 : decode cX3_counted 120 = .ok (.ireturn, 1) := by decide +kernel
theorem dX3_counted_121 : decode cX3_counted 121 = .ok (.aload_n 0, 1) := by decide +kernel
theorem dX3_counted_122 : decode cX3_counted 122 = .ok (.getfield 90, 3) := by decide +kernel
theorem dX3_counted_125 : decode cX3_counted 125 = .ok (.ifCond .eq 7, 3) := by decide +kernel
theorem dX3_counted_128 : decode cX3_counted 128 = .ok (.iconst 1, 1) := by decide +kernel
theorem dX3_counted_129 : decode cX3_counted 129 = .ok (.goto 4, 3) := by decide +kernel
theorem dX3_counted_132 : decode cX3_counted 132 = .ok (.iconst 0, 1) := by decide +kernel
theorem dX3_counted_133 : decode cX3_counted 133 = .ok (.ireturn, 1) := by decide +kernel
theorem dX3_counted_134 : decode cX3_counted 134 = .ok (.aload_n 0, 1) := by decide +kernel
theorem dX3_counted_135 : decode cX3_counted 135 = .ok (.getfield 204, 3) := by decide +kernel
theorem dX3_counted_138 : decode cX3_counted 138 = .ok (.ireturn, 1) := by decide +kernel
theorem dX3_isCode_0 : decode cX3_isCode 0 = .ok (.iload_n 0, 1) := by decide +kernel
theorem dX3_isCode_1 : decode cX3_isCode 1 = .ok (.ifCond .lt 13, 3) := by decide +kernel
theorem dX3_isCode_4 : decode cX3_isCode 4 = .ok (.iload_n 0, 1) := by decide +kernel
theorem dX3_isCode_5 : decode cX3_isCode 5 = .ok (.bipush 31, 2) := by decide +kernel
theorem dX3_isCode_7 : decode cX3_isCode 7 = .ok (.if_icmp .gt 7, 3) := by decide +kernel
theorem dX3_isCode_10 : decode cX3_isCode 10 = .ok (.iconst 1, 1) := by decide +kernel
theorem dX3_isCode_11 : decode cX3_isCode 11 = .ok (.goto 4, 3) := by decide +kernel
theorem dX3_isCode_14 : decode cX3_isCode 14 = .ok (.iconst 0, 1) := by decide +kernel
theorem dX3_isCode_15 : decode cX3_isCode 15 = .ok (.ireturn, 1) := by decide +kernel
theorem dX3_isCharacter_0 : decode cX3_isCharacter 0 = .ok (.iload_n 0, 1) := by decide +kernel
theorem dX3_isCharacter_1 : decode cX3_isCharacter 1 = .ok (.iconst 1, 1) := by decide +kernel
theorem dX3_isCharacter_2 : decode cX3_isCharacter 2 = .ok (.if_icmp .lt 13, 3) := by decide +kernel
theorem dX3_isCharacter_5 : decode cX3_isCharacter 5 = .ok (.iload_n 0, 1) := by decide +kernel
theorem dX3_isCharacter_6 : decode cX3_isCharacter 6 = .ok (.bipush 54, 2) := by decide +kernel
theorem dX3_isCharacter_8 : decode cX3_isCharacter 8 = .ok (.if_icmp .gt 7, 3) := by decide +kernel
theorem dX3_isCharacter_11 : decode cX3_isCharacter 11 = .ok (.iconst 1, 1) := by decide +kernel
theorem dX3_isCharacter_12 : decode cX3_isCharacter 12 = .ok (.goto 4, 3) := by decide +kernel
theorem dX3_isCharacter_15 : decode cX3_isCharacter 15 = .ok (.iconst 0, 1) := by decide +kernel
theorem dX3_isCharacter_16 : decode cX3_isCharacter 16 = .ok (.ireturn, 1) := by decide +kernel
theorem dX3_isFigure_0 : decode cX3_isFigure 0 = .ok (.iload_n 0, 1) := by decide +kernel
theorem dX3_isFigure_1 : decode cX3_isFigure 1 = .ok (.bipush 26, 2) := by decide +kernel
theorem dX3_isFigure_3 : decode cX3_isFigure 3 = .ok (.if_icmp .le 13, 3) := by decide +kernel
theorem dX3_isFigure_6 : decode cX3_isFigure 6 = .ok (.iload_n 0, 1) := by decide +kernel
theorem dX3_isFigure_7 : decode cX3_isFigure 7 = .ok (.bipush 53, 2) := by decide +kernel
theorem dX3_isFigure_9 : decode cX3_isFigure 9 = .ok (.if_icmp .ge 7, 3) := by decide +kernel
theorem dX3_isFigure_12 : decode cX3_isFigure 12 = .ok (.iconst 1, 1) := by decide +kernel
theorem dX3_isFigure_13 : decode cX3_isFigure 13 = .ok (.goto 4, 3) := by decide +kernel
theorem dX3_isFigure_16 : decode cX3_isFigure 16 = .ok (.iconst 0, 1) := by decide +kernel
theorem dX3_isFigure_17 : decode cX3_isFigure 17 = .ok (.ireturn, 1) := by decide +kernel
theorem dX3_codeOf_0 : decode cX3_codeOf 0 = .ok (.iload_n 0, 1) := by decide +kernel
theorem dX3_codeOf_1 : decode cX3_codeOf 1 = .ok (.ifCond .lt 19, 3) := by decide +kernel
theorem dX3_codeOf_4 : decode cX3_codeOf 4 = .ok (.iload_n 0, 1) := by decide +kernel
theorem dX3_codeOf_5 : decode cX3_codeOf 5 = .ok (.getstatic 207, 3) := by decide +kernel
theorem dX3_codeOf_8 : decode cX3_codeOf 8 = .ok (.arraylength, 1) := by decide +kernel
theorem dX3_codeOf_9 : decode cX3_codeOf 9 = .ok (.if_icmp .ge 11, 3) := by decide +kernel
theorem dX3_codeOf_12 : decode cX3_codeOf 12 = .ok (.getstatic 207, 3) := by decide +kernel
theorem dX3_codeOf_15 : decode cX3_codeOf 15 = .ok (.iload_n 0, 1) := by decide +kernel
theorem dX3_codeOf_16 : decode cX3_codeOf 16 = .ok (.iaload, 1) := by decide +kernel
theorem dX3_codeOf_17 : decode cX3_codeOf 17 = .ok (.goto 4, 3) := by decide +kernel
theorem dX3_codeOf_20 : decode cX3_codeOf 20 = .ok (.iconst 0, 1) := by decide +kernel
theorem dX3_codeOf_21 : decode cX3_codeOf 21 = .ok (.ireturn, 1) := by decide +kernel
set_option maxRecDepth 20000 in
theorem ggX3_characterOf_X3_characterInLetters : GoodIn wsX3_characterOf wsX3_characterInLetters := goodIn_r _ [4, 5] (by decide +kernel) (by decide +kernel)
set_option maxRecDepth 20000 in
theorem gX3_characterOf_X3_characterInLetters : GoodIn wsX3_characterOf (va_wsS RX3 211 yX3_characterInLetters wsX3_characterInLetters) := goodIn_app (goodIn_of _ (by decide +kernel)) ggX3_characterOf_X3_characterInLetters
set_option maxRecDepth 20000 in
theorem ggX3_characterOf_X3_dependsOnShift : GoodIn wsX3_characterOf wsX3_dependsOnShift := goodIn_r _ [8, 1, 2, 3, 4, 5] (by decide +kernel) (by decide +kernel)
set_option maxRecDepth 20000 in
theorem gX3_characterOf_X3_dependsOnShift : GoodIn wsX3_characterOf (va_wsS RX3 113 yX3_dependsOnShift wsX3_dependsOnShift) := goodIn_app (goodIn_of _ (by decide +kernel)) ggX3_characterOf_X3_dependsOnShift
theorem dX3_characterOf_0 : decode cX3_characterOf 0 = .ok (.iload_n 0, 1) := by decide +kernel
theorem dX3_characterOf_1 : decode cX3_characterOf 1 = .ok (.invokestatic 211, 3) := by decide +kernel
theorem dX3_characterOf_4 : decode cX3_characterOf 4 = .ok (.istore_n 2, 1) := by decide +kernel
theorem dX3_characterOf_5 : decode cX3_characterOf 5 = .ok (.iload_n 1, 1) := by decide +kernel
theorem dX3_characterOf_6 : decode cX3_characterOf 6 = .ok (.ifCond .eq 17, 3) := by decide +kernel
theorem dX3_characterOf_9 : decode cX3_characterOf 9 = .ok (.iload_n 0, 1) := by decide +kernel
theorem dX3_characterOf_10 : decode cX3_characterOf 10 = .ok (.invokestatic 113, 3) := by decide +kernel
theorem dX3_characterOf_13 : decode cX3_characterOf 13 = .ok (.ifCond .eq 10, 3) := by decide +kernel
theorem dX3_characterOf_16 : decode cX3_characterOf 16 = .ok (.iload_n 2, 1) := by decide +kernel
theorem dX3_characterOf_17 : decode cX3_characterOf 17 = .ok (.bipush 26, 2) := by decide +kernel
theorem dX3_characterOf_19 : decode cX3_characterOf 19 = .ok (.iadd, 1) := by decide +kernel
theorem dX3_characterOf_20 : decode cX3_characterOf 20 = .ok (.goto 4, 3) := by decide +kernel
theorem dX3_characterOf_23 : decode cX3_characterOf 23 = .ok (.iload_n 2, 1) := by decide +kernel
theorem dX3_characterOf_24 : decode cX3_characterOf 24 = .ok (.ireturn, 1) := by decide +kernel
set_option maxRecDepth 20000 in
theorem ggX3_dependsOnShift_X3_characterInLetters : GoodIn wsX3_dependsOnShift wsX3_characterInLetters := goodIn_r _ [4, 5] (by decide +kernel) (by decide +kernel)
set_option maxRecDepth 20000 in
theorem gX3_dependsOnShift_X3_characterInLetters : GoodIn wsX3_dependsOnShift (va_wsS RX3 211 yX3_characterInLetters wsX3_characterInLetters) := goodIn_app (goodIn_of _ (by decide +kernel)) ggX3_dependsOnShift_X3_characterInLetters
theorem dX3_dependsOnShift_0 : decode cX3_dependsOnShift 0 = .ok (.iload_n 0, 1) := by decide +kernel
theorem dX3_dependsOnShift_1 : decode cX3_dependsOnShift 1 = .ok (.invokestatic 211, 3) := by decide +kernel
theorem dX3_dependsOnShift_4 : decode cX3_dependsOnShift 4 = .ok (.istore_n 1, 1) := by decide +kernel
theorem dX3_dependsOnShift_5 : decode cX3_dependsOnShift 5 = .ok (.iload_n 1, 1) := by decide +kernel
theorem dX3_dependsOnShift_6 : decode cX3_dependsOnShift 6 = .ok (.ifCond .eq 13, 3) := by decide +kernel
theorem dX3_dependsOnShift_9 : decode cX3_dependsOnShift 9 = .ok (.iload_n 1, 1) := by decide +kernel
theorem dX3_dependsOnShift_10 : decode cX3_dependsOnShift 10 = .ok (.bipush 26, 2) := by decide +kernel
theorem dX3_dependsOnShift_12 : decode cX3_dependsOnShift 12 = .ok (.if_icmp .gt 7, 3) := by decide +kernel
theorem dX3_dependsOnShift_15 : decode cX3_dependsOnShift 15 = .ok (.iconst 1, 1) := by decide +kernel
theorem dX3_dependsOnShift_16 : decode cX3_dependsOnShift 16 = .ok (.goto 4, 3) := by decide +kernel
theorem dX3_dependsOnShift_19 : decode cX3_dependsOnShift 19 = .ok (.iconst 0, 1) := by decide +kernel
theorem dX3_dependsOnShift_20 : decode cX3_dependsOnShift 20 = .ok (.ireturn, 1) := by decide +kernel
theorem dX3_characterInLetters_0 : decode cX3_characterInLetters 0 = .ok (.iload_n 0, 1) := by decide +kernel
theorem dX3_characterInLetters_1 : decode cX3_characterInLetters 1 = .ok (.ifCond .lt 19, 3) := by decide +kernel
theorem dX3_characterInLetters_4 : decode cX3_characterInLetters 4 = .ok (.iload_n 0, 1) := by decide +kernel
theorem dX3_characterInLetters_5 : decode cX3_characterInLetters 5 = .ok (.getstatic 214, 3) := by decide +kernel
theorem dX3_characterInLetters_8 : decode cX3_characterInLetters 8 = .ok (.arraylength, 1) := by decide +kernel
theorem dX3_characterInLetters_9 : decode cX3_characterInLetters 9 = .ok (.if_icmp .ge 11, 3) := by decide +kernel
theorem dX3_characterInLetters_12 : decode cX3_characterInLetters 12 = .ok (.getstatic 214, 3) := by decide +kernel
theorem dX3_characterInLetters_15 : decode cX3_characterInLetters 15 = .ok (.iload_n 0, 1) := by decide +kernel
theorem dX3_characterInLetters_16 : decode cX3_characterInLetters 16 = .ok (.iaload, 1) := by decide +kernel
theorem dX3_characterInLetters_17 : decode cX3_characterInLetters 17 = .ok (.goto 4, 3) := by decide +kernel
theorem dX3_characterInLetters_20 : decode cX3_characterInLetters 20 = .ok (.iconst 0, 1) := by decide +kernel
theorem dX3_characterInLetters_21 : decode cX3_characterInLetters 21 = .ok (.ireturn, 1) := by decide +kernel
theorem dX3_isShift_0 : decode cX3_isShift 0 = .ok (.iload_n 0, 1) := by decide +kernel
theorem dX3_isShift_1 : decode cX3_isShift 1 = .ok (.bipush 31, 2) := by decide +kernel
theorem dX3_isShift_3 : decode cX3_isShift 3 = .ok (.if_icmp .eq 9, 3) := by decide +kernel
theorem dX3_isShift_6 : decode cX3_isShift 6 = .ok (.iload_n 0, 1) := by decide +kernel
theorem dX3_isShift_7 : decode cX3_isShift 7 = .ok (.bipush 27, 2) := by decide +kernel
theorem dX3_isShift_9 : decode cX3_isShift 9 = .ok (.if_icmp .ne 7, 3) := by decide +kernel
theorem dX3_isShift_12 : decode cX3_isShift 12 = .ok (.iconst 1, 1) := by decide +kernel
theorem dX3_isShift_13 : decode cX3_isShift 13 = .ok (.goto 4, 3) := by decide +kernel
theorem dX3_isShift_16 : decode cX3_isShift 16 = .ok (.iconst 0, 1) := by decide +kernel
theorem dX3_isShift_17 : decode cX3_isShift 17 = .ok (.ireturn, 1) := by decide +kernel
set_option maxRecDepth 20000 in
theorem ggX3_figuresBehind_X3_shiftsToLetters : GoodIn wsX3_figuresBehind wsX3_shiftsToLetters := goodIn_r _ [5, 6, 7, 8, 9, 10, 11, 12, 13, 14, 15, 16] (by decide +kernel) (by decide +kernel)
set_option maxRecDepth 20000 in
theorem gX3_figuresBehind_X3_shiftsToLetters : GoodIn wsX3_figuresBehind (wsV RX3 217 RX3 yX3_shiftsToLetters wsX3_shiftsToLetters) := goodIn_app (goodIn_of _ (by decide +kernel)) ggX3_figuresBehind_X3_shiftsToLetters
theorem dX3_figuresBehind_0 : decode cX3_figuresBehind 0 = .ok (.iload_n 1, 1) := by decide +kernel
theorem dX3_figuresBehind_1 : decode cX3_figuresBehind 1 = .ok (.bipush 27, 2) := by decide +kernel
theorem dX3_figuresBehind_3 : decode cX3_figuresBehind 3 = .ok (.if_icmp .ne 5, 3) := by decide +kernel
theorem dX3_figuresBehind_6 : decode cX3_figuresBehind 6 = .ok (.iconst 1, 1) := by decide +kernel
theorem dX3_figuresBehind_7 : decode cX3_figuresBehind 7 = .ok (.ireturn, 1) := by decide +kernel
theorem dX3_figuresBehind_8 : decode cX3_figuresBehind 8 = .ok (.iload_n 2, 1) := by decide +kernel
theorem dX3_figuresBehind_9 : decode cX3_figuresBehind 9 = .ok (.ifCond .eq 15, 3) := by decide +kernel
theorem dX3_figuresBehind_12 : decode cX3_figuresBehind 12 = .ok (.aload_n 0, 1) := by decide +kernel
theorem dX3_figuresBehind_13 : decode cX3_figuresBehind 13 = .ok (.iload_n 1, 1) := by decide +kernel
theorem dX3_figuresBehind_14 : decode cX3_figuresBehind 14 = .ok (.invokevirtual 217, 3) := by decide +kernel
theorem dX3_figuresBehind_17 : decode cX3_figuresBehind 17 = .ok (.ifCond .ne 7, 3) := by decide +kernel
theorem dX3_figuresBehind_20 : decode cX3_figuresBehind 20 = .ok (.iconst 1, 1) := by decide +kernel
theorem dX3_figuresBehind_21 : decode cX3_figuresBehind 21 = .ok (.goto 4, 3) := by decide +kernel
theorem dX3_figuresBehind_24 : decode cX3_figuresBehind 24 = .ok (.iconst 0, 1) := by decide +kernel
theorem dX3_figuresBehind_25 : decode cX3_figuresBehind 25 = .ok (.ireturn, 1) := by decide +kernel
theorem dX3_shiftsToLetters_0 : decode cX3_shiftsToLetters 0 = .ok (.iload_n 1, 1) := by decide +kernel
theorem dX3_shiftsToLetters_1 : decode cX3_shiftsToLetters 1 = .ok (.bipush 31, 2) := by decide +kernel
theorem dX3_shiftsToLetters_3 : decode cX3_shiftsToLetters 3 = .ok (.if_icmp .eq 20, 3) := by decide +kernel
theorem dX3_shiftsToLetters_6 : decode cX3_shiftsToLetters 6 = .ok (.iload_n 1, 1) := by decide +kernel
theorem dX3_shiftsToLetters_7 : decode cX3_shiftsToLetters 7 = .ok (.iconst 2, 1) := by decide +kernel
theorem dX3_shiftsToLetters_8 : decode cX3_shiftsToLetters 8 = .ok (.if_icmp .eq 15, 3) := by decide +kernel
theorem dX3_shiftsToLetters_11 : decode cX3_shiftsToLetters 11 = .ok (.aload_n 0, 1) := by decide +kernel
theorem dX3_shiftsToLetters_12 : decode cX3_shiftsToLetters 12 = .ok (.getfield 90, 3) := by decide +kernel
theorem dX3_shiftsToLetters_15 : decode cX3_shiftsToLetters 15 = .ok (.ifCond .eq 12, 3) := by decide +kernel
theorem dX3_shiftsToLetters_18 : decode cX3_shiftsToLetters 18 = .ok (.iload_n 1, 1) := by decide +kernel
theorem dX3_shiftsToLetters_19 : decode cX3_shiftsToLetters 19 = .ok (.iconst 4, 1) := by decide +kernel
theorem dX3_shiftsToLetters_20 : decode cX3_shiftsToLetters 20 = .ok (.if_icmp .ne 7, 3) := by decide +kernel
theorem dX3_shiftsToLetters_23 : decode cX3_shiftsToLetters 23 = .ok (.iconst 1, 1) := by decide +kernel
theorem dX3_shiftsToLetters_24 : decode cX3_shiftsToLetters 24 = .ok (.goto 4, 3) := by decide +kernel
theorem dX3_shiftsToLetters_27 : decode cX3_shiftsToLetters 27 = .ok (.iconst 0, 1) := by decide +kernel
theorem dX3_shiftsToLetters_28 : decode cX3_shiftsToLetters 28 = .ok (.ireturn, 1) := by decide +kernel
set_option maxRecDepth 20000 in
theorem ggX3_figuresAhead_X0_size : GoodIn wsX3_figuresAhead wsX0_size := goodIn_r _ [6, 7, 37, 38] (by decide +kernel) (by decide +kernel)
set_option maxRecDepth 20000 in
theorem gX3_figuresAhead_X0_size : GoodIn wsX3_figuresAhead (wsV RX3 107 RX0 yX0_size wsX0_size) := goodIn_app (goodIn_of _ (by decide +kernel)) ggX3_figuresAhead_X0_size
set_option maxRecDepth 20000 in
theorem ggX3_figuresAhead_X0_at : GoodIn wsX3_figuresAhead wsX0_at := goodIn_r _ [11, 12, 13, 14, 15, 5, 16, 7, 37, 38] (by decide +kernel) (by decide +kernel)
set_option maxRecDepth 20000 in
theorem gX3_figuresAhead_X0_at : GoodIn wsX3_figuresAhead (wsV RX3 127 RX0 yX0_at wsX0_at) := goodIn_app (goodIn_of _ (by decide +kernel)) ggX3_figuresAhead_X0_at
set_option maxRecDepth 20000 in
theorem ggX3_figuresAhead_X3_figuresBehind : GoodIn wsX3_figuresAhead wsX3_figuresBehind := goodIn_r _ [21, 22, 23, 24, 20, 25, 26, 27, 28, 29, 30, 31, 32, 33, 34, 35, 36] (by decide +kernel) (by decide +kernel)
set_option maxRecDepth 20000 in
theorem gX3_figuresAhead_X3_figuresBehind : GoodIn wsX3_figuresAhead (wsV RX3 164 RX3 yX3_figuresBehind wsX3_figuresBehind) := goodIn_app (goodIn_of _ (by decide +kernel)) ggX3_figuresAhead_X3_figuresBehind
theorem dX3_figuresAhead_0 : decode cX3_figuresAhead 0 = .ok (.iconst 0, 1) := by decide +kernel
theorem dX3_figuresAhead_1 : decode cX3_figuresAhead 1 = .ok (.istore_n 2, 1) := by decide +kernel
theorem dX3_figuresAhead_2 : decode cX3_figuresAhead 2 = .ok (.iconst 0, 1) := by decide +kernel
theorem dX3_figuresAhead_3 : decode cX3_figuresAhead 3 = .ok (.istore_n 3, 1) := by decide +kernel
theorem dX3_figuresAhead_4 : decode cX3_figuresAhead 4 = .ok (.iload_n 3, 1) := by decide +kernel
theorem dX3_figuresAhead_5 : decode cX3_figuresAhead 5 = .ok (.iload_n 1, 1) := by decide +kernel
theorem dX3_figuresAhead_6 : decode cX3_figuresAhead 6 = .ok (.if_icmp .ge 34, 3) := by decide +kernel
theorem dX3_figuresAhead_9 : decode cX3_figuresAhead 9 = .ok (.iload_n 3, 1) := by decide +kernel
theorem dX3_figuresAhead_10 : decode cX3_figuresAhead 10 = .ok (.aload_n 0, 1) := by decide +kernel
theorem dX3_figuresAhead_11 : decode cX3_figuresAhead 11 = .ok (.getfield 28, 3) := by decide +kernel
theorem dX3_figuresAhead_14 : decode cX3_figuresAhead 14 = .ok (.invokevirtual 107, 3) := by decide +kernel
theorem dX3_figuresAhead_17 : decode cX3_figuresAhead 17 = .ok (.if_icmp .ge 23, 3) := by decide +kernel
theorem dX3_figuresAhead_20 : decode cX3_figuresAhead 20 = .ok (.aload_n 0, 1) := by decide +kernel
theorem dX3_figuresAhead_21 : decode cX3_figuresAhead 21 = .ok (.aload_n 0, 1) := by decide +kernel
theorem dX3_figuresAhead_22 : decode cX3_figuresAhead 22 = .ok (.getfield 28, 3) := by decide +kernel
theorem dX3_figuresAhead_25 : decode cX3_figuresAhead 25 = .ok (.iload_n 3, 1) := by decide +kernel
theorem dX3_figuresAhead_26 : decode cX3_figuresAhead 26 = .ok (.invokevirtual 127, 3) := by decide +kernel
theorem dX3_figuresAhead_29 : decode cX3_figuresAhead 29 = .ok (.iload_n 2, 1) := by decide +kernel
theorem dX3_figuresAhead_30 : decode cX3_figuresAhead 30 = .ok (.invokevirtual 164, 3) := by decide +kernel
theorem dX3_figuresAhead_33 : decode cX3_figuresAhead 33 = .ok (.istore_n 2, 1) := by decide +kernel
theorem dX3_figuresAhead_34 : decode cX3_figuresAhead 34 = .ok (.iinc 3 1, 3) := by decide +kernel
theorem dX3_figuresAhead_37 : decode cX3_figuresAhead 37 = .ok (.goto (-33), 3) := by decide +kernel
theorem dX3_figuresAhead_40 : decode cX3_figuresAhead 40 = .ok (.iload_n 2, 1) := by decide +kernel
theorem dX3_figuresAhead_41 : decode cX3_figuresAhead 41 = .ok (.ireturn, 1) := by decide +kernel
set_option maxRecDepth 20000 in
theorem ggX3_figuresAtEnd_X0_size : GoodIn wsX3_figuresAtEnd wsX0_size := goodIn_r _ [6, 7, 41, 42] (by decide +kernel) (by decide +kernel)
set_option maxRecDepth 20000 in
theorem gX3_figuresAtEnd_X0_size : GoodIn wsX3_figuresAtEnd (wsV RX3 107 RX0 yX0_size wsX0_size) := goodIn_app (goodIn_of _ (by decide +kernel)) ggX3_figuresAtEnd_X0_size
set_option maxRecDepth 20000 in
theorem ggX3_figuresAtEnd_X3_figuresAhead : GoodIn wsX3_figuresAtEnd wsX3_figuresAhead := goodIn_r _ [12, 1, 2, 3, 4, 5, 6, 7, 13, 14, 15, 16, 17, 18, 19, 20, 21, 22, 23, 24, 11, 25, 26, 27, 28, 29, 30, 31, 32, 33, 34, 35, 36, 37, 38, 39, 40, 41, 42] (by decide +kernel) (by decide +kernel)
set_option maxRecDepth 20000 in
theorem gX3_figuresAtEnd_X3_figuresAhead : GoodIn wsX3_figuresAtEnd (wsV RX3 174 RX3 yX3_figuresAhead wsX3_figuresAhead) := goodIn_app (goodIn_of _ (by decide +kernel)) ggX3_figuresAtEnd_X3_figuresAhead
theorem dX3_figuresAtEnd_0 : decode cX3_figuresAtEnd 0 = .ok (.aload_n 0, 1) := by decide +kernel
theorem dX3_figuresAtEnd_1 : decode cX3_figuresAtEnd 1 = .ok (.aload_n 0, 1) := by decide +kernel
theorem dX3_figuresAtEnd_2 : decode cX3_figuresAtEnd 2 = .ok (.getfield 28, 3) := by decide +kernel
theorem dX3_figuresAtEnd_5 : decode cX3_figuresAtEnd 5 = .ok (.invokevirtual 107, 3) := by decide +kernel
theorem dX3_figuresAtEnd_8 : decode cX3_figuresAtEnd 8 = .ok (.invokevirtual 174, 3) := by decide +kernel
theorem dX3_figuresAtEnd_11 : decode cX3_figuresAtEnd 11 = .ok (.ireturn, 1) := by decide +kernel
set_option maxRecDepth 20000 in
theorem ggX3_servesBehind_X0_size : GoodIn wsX3_servesBehind wsX0_size := goodIn_r _ [6, 7, 40, 41] (by decide +kernel) (by decide +kernel)
set_option maxRecDepth 20000 in
theorem gX3_servesBehind_X0_size : GoodIn wsX3_servesBehind (wsV RX3 107 RX0 yX0_size wsX0_size) := goodIn_app (goodIn_of _ (by decide +kernel)) ggX3_servesBehind_X0_size
set_option maxRecDepth 20000 in
theorem ggX3_servesBehind_X0_at : GoodIn wsX3_servesBehind wsX0_at := goodIn_r _ [11, 12, 13, 14, 15, 5, 16, 7, 40, 41] (by decide +kernel) (by decide +kernel)
set_option maxRecDepth 20000 in
theorem gX3_servesBehind_X0_at : GoodIn wsX3_servesBehind (wsV RX3 127 RX0 yX0_at wsX0_at) := goodIn_app (goodIn_of _ (by decide +kernel)) ggX3_servesBehind_X0_at
set_option maxRecDepth 20000 in
theorem ggX3_servesBehind_X3_dependsOnShift : GoodIn wsX3_servesBehind wsX3_dependsOnShift := goodIn_r _ [20, 21, 22, 19, 23, 24] (by decide +kernel) (by decide +kernel)
set_option maxRecDepth 20000 in
theorem gX3_servesBehind_X3_dependsOnShift : GoodIn wsX3_servesBehind (va_wsS RX3 113 yX3_dependsOnShift wsX3_dependsOnShift) := goodIn_app (goodIn_of _ (by decide +kernel)) ggX3_servesBehind_X3_dependsOnShift
set_option maxRecDepth 20000 in
theorem ggX3_servesBehind_X3_shiftsToLetters : GoodIn wsX3_servesBehind wsX3_shiftsToLetters := goodIn_r _ [28, 29, 30, 31, 32, 33, 34, 35, 36, 37, 38, 39] (by decide +kernel) (by decide +kernel)
set_option maxRecDepth 20000 in
theorem gX3_servesBehind_X3_shiftsToLetters : GoodIn wsX3_servesBehind (wsV RX3 217 RX3 yX3_shiftsToLetters wsX3_shiftsToLetters) := goodIn_app (goodIn_of _ (by decide +kernel)) ggX3_servesBehind_X3_shiftsToLetters
theorem dX3_servesBehind_0 : decode cX3_servesBehind 0 = .ok (.iload_n 1, 1) := by decide +kernel
theorem dX3_servesBehind_1 : decode cX3_servesBehind 1 = .ok (.iconst 1, 1) := by decide +kernel
theorem dX3_servesBehind_2 : decode cX3_servesBehind 2 = .ok (.iadd, 1) := by decide +kernel
theorem dX3_servesBehind_3 : decode cX3_servesBehind 3 = .ok (.istore_n 2, 1) := by decide +kernel
theorem dX3_servesBehind_4 : decode cX3_servesBehind 4 = .ok (.iload_n 2, 1) := by decide +kernel
theorem dX3_servesBehind_5 : decode cX3_servesBehind 5 = .ok (.aload_n 0, 1) := by decide +kernel
theorem dX3_servesBehind_6 : decode cX3_servesBehind 6 = .ok (.getfield 28, 3) := by decide +kernel
theorem dX3_servesBehind_9 : decode cX3_servesBehind 9 = .ok (.invokevirtual 107, 3) := by decide +kernel
theorem dX3_servesBehind_12 : decode cX3_servesBehind 12 = .ok (.if_icmp .ge 43, 3) := by decide +kernel
theorem dX3_servesBehind_15 : decode cX3_servesBehind 15 = .ok (.aload_n 0, 1) := by decide +kernel
theorem dX3_servesBehind_16 : decode cX3_servesBehind 16 = .ok (.getfield 28, 3) := by decide +kernel
theorem dX3_servesBehind_19 : decode cX3_servesBehind 19 = .ok (.iload_n 2, 1) := by decide +kernel
theorem dX3_servesBehind_20 : decode cX3_servesBehind 20 = .ok (.invokevirtual 127, 3) := by decide +kernel
theorem dX3_servesBehind_23 : decode cX3_servesBehind 23 = .ok (.istore_n 3, 1) := by decide +kernel
theorem dX3_servesBehind_24 : decode cX3_servesBehind 24 = .ok (.iload_n 3, 1) := by decide +kernel
theorem dX3_servesBehind_25 : decode cX3_servesBehind 25 = .ok (.invokestatic 113, 3) := by decide +kernel
theorem dX3_servesBehind_28 : decode cX3_servesBehind 28 = .ok (.ifCond .eq 5, 3) := by decide +kernel
theorem dX3_servesBehind_31 : decode cX3_servesBehind 31 = .ok (.iconst 1, 1) := by decide +kernel
theorem dX3_servesBehind_32 : decode cX3_servesBehind 32 = .ok (.ireturn, 1) := by decide +kernel
theorem dX3_servesBehind_33 : decode cX3_servesBehind 33 = .ok (.iload_n 3, 1) := by decide +kernel
theorem dX3_servesBehind_34 : decode cX3_servesBehind 34 = .ok (.bipush 27, 2) := by decide +kernel
theorem dX3_servesBehind_36 : decode cX3_servesBehind 36 = .ok (.if_icmp .eq 11, 3) := by decide +kernel
theorem dX3_servesBehind_39 : decode cX3_servesBehind 39 = .ok (.aload_n 0, 1) := by decide +kernel
theorem dX3_servesBehind_40 : decode cX3_servesBehind 40 = .ok (.iload_n 3, 1) := by decide +kernel
theorem dX3_servesBehind_41 : decode cX3_servesBehind 41 = .ok (.invokevirtual 217, 3) := by decide +kernel
theorem dX3_servesBehind_44 : decode cX3_servesBehind 44 = .ok (.ifCond .eq 5, 3) := by decide +kernel
theorem dX3_servesBehind_47 : decode cX3_servesBehind 47 = .ok (.iconst 0, 1) := by decide +kernel
theorem dX3_servesBehind_48 : decode cX3_servesBehind 48 = .ok (.ireturn, 1) := by decide +kernel
theorem dX3_servesBehind_49 : decode cX3_servesBehind 49 = .ok (.iinc 2 1, 3) := by decide +kernel
theorem dX3_servesBehind_52 : decode cX3_servesBehind 52 = .ok (.goto (-48), 3) := by decide +kernel
theorem dX3_servesBehind_55 : decode cX3_servesBehind 55 = .ok (.iconst 0, 1) := by decide +kernel
theorem dX3_servesBehind_56 : decode cX3_servesBehind 56 = .ok (.ireturn, 1) := by decide +kernel
set_option maxRecDepth 20000 in
theorem ggX3_takeIn_X2_readAs : GoodIn wsX3_takeIn wsX2_readAs := goodIn_r _ [8, 9, 10, 11, 12, 13, 14, 15, 16, 17, 18, 19, 20, 21, 22, 85, 86, 87, 88, 89] (by decide +kernel) (by decide +kernel)
set_option maxRecDepth 20000 in
theorem gX3_takeIn_X2_readAs : GoodIn wsX3_takeIn (wsV RX3 161 RX2 yX2_readAs wsX2_readAs) := goodIn_app (goodIn_of _ (by decide +kernel)) ggX3_takeIn_X2_readAs
set_option maxRecDepth 20000 in
theorem ggX3_takeIn_X3_obey : GoodIn wsX3_takeIn wsX3_obey := goodIn_r _ [27, 28, 29, 30, 31, 32, 33, 26, 34, 35, 36, 37, 38, 39, 40, 41, 42, 43, 44, 45, 46, 47, 48, 49, 50, 51, 52, 53, 54, 55, 56, 15, 57, 22, 58, 59, 60, 61, 62, 63, 64, 65, 17, 66, 67, 68, 69, 70, 71, 72, 73, 74, 75, 76, 77, 78, 79, 80, 81, 82, 83, 84, 90, 91, 92, 88, 89] (by decide +kernel) (by decide +kernel)
set_option maxRecDepth 20000 in
theorem gX3_takeIn_X3_obey : GoodIn wsX3_takeIn (wsV RX3 220 RX3 yX3_obey wsX3_obey) := goodIn_app (goodIn_of _ (by decide +kernel)) ggX3_takeIn_X3_obey
theorem dX3_takeIn_0 : decode cX3_takeIn 0 = .ok (.aload_n 0, 1) := by decide +kernel
theorem dX3_takeIn_1 : decode cX3_takeIn 1 = .ok (.getfield 10, 3) := by decide +kernel
theorem dX3_takeIn_4 : decode cX3_takeIn 4 = .ok (.iload_n 1, 1) := by decide +kernel
theorem dX3_takeIn_5 : decode cX3_takeIn 5 = .ok (.aload_n 0, 1) := by decide +kernel
theorem dX3_takeIn_6 : decode cX3_takeIn 6 = .ok (.getfield 158, 3) := by decide +kernel
theorem dX3_takeIn_9 : decode cX3_takeIn 9 = .ok (.invokevirtual 161, 3) := by decide +kernel
theorem dX3_takeIn_12 : decode cX3_takeIn 12 = .ok (.istore_n 2, 1) := by decide +kernel
theorem dX3_takeIn_13 : decode cX3_takeIn 13 = .ok (.aload_n 0, 1) := by decide +kernel
theorem dX3_takeIn_14 : decode cX3_takeIn 14 = .ok (.dup, 1) := by decide +kernel
theorem dX3_takeIn_15 : decode cX3_takeIn 15 = .ok (.getfield 158, 3) := by decide +kernel
theorem dX3_takeIn_18 : decode cX3_takeIn 18 = .ok (.iconst 1, 1) := by decide +kernel
theorem dX3_takeIn_19 : decode cX3_takeIn 19 = .ok (.iadd, 1) := by decide +kernel
theorem dX3_takeIn_20 : decode cX3_takeIn 20 = .ok (.putfield 158, 3) := by decide +kernel
theorem dX3_takeIn_23 : decode cX3_takeIn 23 = .ok (.iload_n 2, 1) := by decide +kernel
theorem dX3_takeIn_24 : decode cX3_takeIn 24 = .ok (.iload_n 1, 1) := by decide +kernel
theorem dX3_takeIn_25 : decode cX3_takeIn 25 = .ok (.if_icmp .eq 13, 3) := by decide +kernel
theorem dX3_takeIn_28 : decode cX3_takeIn 28 = .ok (.aload_n 0, 1) := by decide +kernel
theorem dX3_takeIn_29 : decode cX3_takeIn 29 = .ok (.dup, 1) := by decide +kernel
theorem dX3_takeIn_30 : decode cX3_takeIn 30 = .ok (.getfield 198, 3) := by decide +kernel
theorem dX3_takeIn_33 : decode cX3_takeIn 33 = .ok (.iconst 1, 1) := by decide +kernel
theorem dX3_takeIn_34 : decode cX3_takeIn 34 = .ok (.iadd, 1) := by decide +kernel
theorem dX3_takeIn_35 : decode cX3_takeIn 35 = .ok (.putfield 198, 3) := by decide +kernel
theorem dX3_takeIn_38 : decode cX3_takeIn 38 = .ok (.aload_n 0, 1) := by decide +kernel
theorem dX3_takeIn_39 : decode cX3_takeIn 39 = .ok (.iload_n 2, 1) := by decide +kernel
theorem dX3_takeIn_40 : decode cX3_takeIn 40 = .ok (.invokevirtual 220, 3) := by decide +kernel
theorem dX3_takeIn_43 : decode cX3_takeIn 43 = .ok (.iload_n 2, 1) := by decide +kernel
theorem dX3_takeIn_44 : decode cX3_takeIn 44 = .ok (.ireturn, 1) := by decide +kernel
set_option maxRecDepth 20000 in
theorem ggX3_obey_X3_characterOf : GoodIn wsX3_obey wsX3_characterOf := goodIn_r _ [8, 9, 10, 7, 11, 12, 13, 14, 15] (by decide +kernel) (by decide +kernel)
set_option maxRecDepth 20000 in
theorem gX3_obey_X3_characterOf : GoodIn wsX3_obey (va_wsS RX3 52 yX3_characterOf wsX3_characterOf) := goodIn_app (goodIn_of _ (by decide +kernel)) ggX3_obey_X3_characterOf
set_option maxRecDepth 20000 in
theorem ggX3_obey_X1_beginLine : GoodIn wsX3_obey wsX1_beginLine := goodIn_r _ [20, 21, 22, 23, 24, 25, 19, 26, 27, 28, 29, 30, 31, 32, 33, 62, 63, 64, 65, 66] (by decide +kernel) (by decide +kernel)
set_option maxRecDepth 20000 in
theorem gX3_obey_X1_beginLine : GoodIn wsX3_obey (wsV RX3 223 RX1 yX1_beginLine wsX1_beginLine) := goodIn_app (goodIn_of _ (by decide +kernel)) ggX3_obey_X1_beginLine
set_option maxRecDepth 20000 in
theorem ggX3_obey_X1_add : GoodIn wsX3_obey wsX1_add := goodIn_r _ [37, 21, 23, 24, 25, 19, 26, 22, 27, 38, 39, 40, 31, 41, 33, 42, 62, 63, 64, 65, 66] (by decide +kernel) (by decide +kernel)
set_option maxRecDepth 20000 in
theorem gX3_obey_X1_add : GoodIn wsX3_obey (wsV RX3 226 RX1 yX1_add wsX1_add) := goodIn_app (goodIn_of _ (by decide +kernel)) ggX3_obey_X1_add
set_option maxRecDepth 20000 in
theorem ggX3_obey_X3_figuresBehind : GoodIn wsX3_obey wsX3_figuresBehind := goodIn_r _ [46, 47, 48, 49, 7, 50, 51, 52, 53, 54, 55, 56, 57, 58, 59, 60, 61] (by decide +kernel) (by decide +kernel)
set_option maxRecDepth 20000 in
theorem gX3_obey_X3_figuresBehind : GoodIn wsX3_obey (wsV RX3 164 RX3 yX3_figuresBehind wsX3_figuresBehind) := goodIn_app (goodIn_of _ (by decide +kernel)) ggX3_obey_X3_figuresBehind
theorem dX3_obey_0 : decode cX3_obey 0 = .ok (.iload_n 1, 1) := by decide +kernel
theorem dX3_obey_1 : decode cX3_obey 1 = .ok (.aload_n 0, 1) := by decide +kernel
theorem dX3_obey_2 : decode cX3_obey 2 = .ok (.getfield 61, 3) := by decide +kernel
theorem dX3_obey_5 : decode cX3_obey 5 = .ok (.invokestatic 52, 3) := by decide +kernel
theorem dX3_obey_8 : decode cX3_obey 8 = .ok (.istore_n 2, 1) := by decide +kernel
theorem dX3_obey_9 : decode cX3_obey 9 = .ok (.iload_n 2, 1) := by decide +kernel
theorem dX3_obey_10 : decode cX3_obey 10 = .ok (.bipush 54, 2) := by decide +kernel
theorem dX3_obey_12 : decode cX3_obey 12 = .ok (.if_icmp .ne 13, 3) := by decide +kernel
theorem dX3_obey_15 : decode cX3_obey 15 = .ok (.aload_n 0, 1) := by decide +kernel
theorem dX3_obey_16 : decode cX3_obey 16 = .ok (.getfield 19, 3) := by decide +kernel
theorem dX3_obey_19 : decode cX3_obey 19 = .ok (.invokevirtual 223, 3) := by decide +kernel
theorem dX3_obey_22 : decode cX3_obey 22 = .ok (.goto 28, 3) := by decide +kernel
theorem dX3_obey_25 : decode cX3_obey 25 = .ok (.iload_n 2, 1) := by decide +kernel
theorem dX3_obey_26 : decode cX3_obey 26 = .ok (.ifCond .eq 24, 3) := by decide +kernel
theorem dX3_obey_29 : decode cX3_obey 29 = .ok (.aload_n 0, 1) := by decide +kernel
theorem dX3_obey_30 : decode cX3_obey 30 = .ok (.getfield 19, 3) := by decide +kernel
theorem dX3_obey_33 : decode cX3_obey 33 = .ok (.iload_n 2, 1) := by decide +kernel
theorem dX3_obey_34 : decode cX3_obey 34 = .ok (.invokevirtual 226, 3) := by decide +kernel
theorem dX3_obey_37 : decode cX3_obey 37 = .ok (.ifCond .ne 13, 3) := by decide +kernel
theorem dX3_obey_40 : decode cX3_obey 40 = .ok (.aload_n 0, 1) := by decide +kernel
theorem dX3_obey_41 : decode cX3_obey 41 = .ok (.dup, 1) := by decide +kernel
theorem dX3_obey_42 : decode cX3_obey 42 = .ok (.getfield 201, 3) := by decide +kernel
theorem dX3_obey_45 : decode cX3_obey 45 = .ok (.iconst 1, 1) := by decide +kernel
theorem dX3_obey_46 : decode cX3_obey 46 = .ok (.iadd, 1) := by decide +kernel
theorem dX3_obey_47 : decode cX3_obey 47 = .ok (.putfield 201, 3) := by decide +kernel
theorem dX3_obey_50 : decode cX3_obey 50 = .ok (.iload_n 1, 1) := by decide +kernel
theorem dX3_obey_51 : decode cX3_obey 51 = .ok (.bipush 8, 2) := by decide +kernel
theorem dX3_obey_53 : decode cX3_obey 53 = .ok (.if_icmp .ne 13, 3) := by decide +kernel
theorem dX3_obey_56 : decode cX3_obey 56 = .ok (.aload_n 0, 1) := by decide +kernel
theorem dX3_obey_57 : decode cX3_obey 57 = .ok (.dup, 1) := by decide +kernel
theorem dX3_obey_58 : decode cX3_obey 58 = .ok (.getfield 204, 3) := by decide +kernel
theorem dX3_obey_61 : decode cX3_obey 61 = .ok (.iconst 1, 1) := by decide +kernel
theorem dX3_obey_62 : decode cX3_obey 62 = .ok (.iadd, 1) := by decide +kernel
theorem dX3_obey_63 : decode cX3_obey 63 = .ok (.putfield 204, 3) := by decide +kernel
theorem dX3_obey_66 : decode cX3_obey 66 = .ok (.aload_n 0, 1) := by decide +kernel
theorem dX3_obey_67 : decode cX3_obey 67 = .ok (.aload_n 0, 1) := by decide +kernel
theorem dX3_obey_68 : decode cX3_obey 68 = .ok (.iload_n 1, 1) := by decide +kernel
theorem dX3_obey_69 : decode cX3_obey 69 = .ok (.aload_n 0, 1) := by decide +kernel
theorem dX3_obey_70 : decode cX3_obey 70 = .ok (.getfield 61, 3) := by decide +kernel
theorem dX3_obey_73 : decode cX3_obey 73 = .ok (.invokevirtual 164, 3) := by decide +kernel
theorem dX3_obey_76 : decode cX3_obey 76 = .ok (.putfield 61, 3) := by decide +kernel
theorem dX3_obey_79 : decode cX3_obey 79 = .ok (.return_, 1) := by decide +kernel
set_option maxRecDepth 20000 in
theorem ggX4_init_L_characters : GoodIn wsX4_init wsL_characters := goodIn_r _ [14, 7, 15, 16, 13, 17, 18, 19, 20] (by decide +kernel) (by decide +kernel)
set_option maxRecDepth 20000 in
theorem gX4_init_L_characters_n7 : GoodIn wsX4_init (wsL_characters) := ggX4_init_L_characters
