set_option maxRecDepth 20000 in
theorem ggX1_init_J7_fill_53178 : GoodIn wsX1_init wsJ7_fill_53178 := goodIn_r _ [10] (by decide +kernel) (by decide +kernel)
set_option maxRecDepth 20000 in
theorem gX1_init_J7_fill_53178 : GoodIn wsX1_init (va_wsS RX1 19 yJ7_fill_53178 wsJ7_fill_53178) := goodIn_app (goodIn_of _ (by decide +kernel)) ggX1_init_J7_fill_53178
theorem dX1_init_0 : decode cX1_init 0 = .ok (.aload_n 0, 1) := by decide +kernel
theorem dX1_init_1 : decode cX1_init 1 = .ok (.invokespecial 3, 3) := by decide +kernel
theorem dX1_init_4 : decode cX1_init 4 = .ok (.aload_n 0, 1) := by decide +kernel
theorem dX1_init_5 : decode cX1_init 5 = .ok (.iconst 5, 1) := by decide +kernel
theorem dX1_init_6 : decode cX1_init 6 = .ok (.newarray .int, 2) := by decide +kernel
theorem dX1_init_8 : decode cX1_init 8 = .ok (.putfield 9, 3) := by decide +kernel
theorem dX1_init_11 : decode cX1_init 11 = .ok (.aload_n 0, 1) := by decide +kernel
theorem dX1_init_12 : decode cX1_init 12 = .ok (.aload_n 1, 1) := by decide +kernel
theorem dX1_init_13 : decode cX1_init 13 = .ok (.putfield 15, 3) := by decide +kernel
theorem dX1_init_16 : decode cX1_init 16 = .ok (.aload_n 0, 1) := by decide +kernel
theorem dX1_init_17 : decode cX1_init 17 = .ok (.getfield 9, 3) := by decide +kernel
theorem dX1_init_20 : decode cX1_init 20 = .ok (.iconst (-1), 1) := by decide +kernel
theorem dX1_init_21 : decode cX1_init 21 = .ok (.invokestatic 19, 3) := by decide +kernel
theorem dX1_init_24 : decode cX1_init 24 = .ok (.return_, 1) := by decide +kernel
theorem dX1_holder_0 : decode cX1_holder 0 = .ok (.iload_n 1, 1) := by decide +kernel
theorem dX1_holder_1 : decode cX1_holder 1 = .ok (.ifCond .lt 21, 3) := by decide +kernel
theorem dX1_holder_4 : decode cX1_holder 4 = .ok (.iload_n 1, 1) := by decide +kernel
theorem dX1_holder_5 : decode cX1_holder 5 = .ok (.aload_n 0, 1) := by decide +kernel
theorem dX1_holder_6 : decode cX1_holder 6 = .ok (.getfield 9, 3) := by decide +kernel
theorem dX1_holder_9 : decode cX1_holder 9 = .ok (.arraylength, 1) := by decide +kernel
theorem dX1_holder_10 : decode cX1_holder 10 = .ok (.if_icmp .ge 12, 3) := by decide +kernel
theorem dX1_holder_13 : decode cX1_holder 13 = .ok (.aload_n 0, 1) := by decide +kernel
theorem dX1_holder_14 : decode cX1_holder 14 = .ok (.getfield 9, 3) := by decide +kernel
theorem dX1_holder_17 : decode cX1_holder 17 = .ok (.iload_n 1, 1) := by decide +kernel
theorem dX1_holder_18 : decode cX1_holder 18 = .ok (.iaload, 1) := by decide +kernel
theorem dX1_holder_19 : decode cX1_holder 19 = .ok (.goto 4, 3) := by decide +kernel
theorem dX1_holder_22 : decode cX1_holder 22 = .ok (.iconst (-1), 1) := by decide +kernel
theorem dX1_holder_23 : decode cX1_holder 23 = .ok (.ireturn, 1) := by decide +kernel
theorem dX1_put_0 : decode cX1_put 0 = .ok (.iload_n 1, 1) := by decide +kernel
theorem dX1_put_1 : decode cX1_put 1 = .ok (.ifCond .lt 19, 3) := by decide +kernel
theorem dX1_put_4 : decode cX1_put 4 = .ok (.iload_n 1, 1) := by decide +kernel
theorem dX1_put_5 : decode cX1_put 5 = .ok (.aload_n 0, 1) := by decide +kernel
theorem dX1_put_6 : decode cX1_put 6 = .ok (.getfield 9, 3) := by decide +kernel
theorem dX1_put_9 : decode cX1_put 9 = .ok (.arraylength, 1) := by decide +kernel
theorem dX1_put_10 : decode cX1_put 10 = .ok (.if_icmp .ge 10, 3) := by decide +kernel
theorem dX1_put_13 : decode cX1_put 13 = .ok (.aload_n 0, 1) := by decide +kernel
theorem dX1_put_14 : decode cX1_put 14 = .ok (.getfield 9, 3) := by decide +kernel
theorem dX1_put_17 : decode cX1_put 17 = .ok (.iload_n 1, 1) := by decide +kernel
theorem dX1_put_18 : decode cX1_put 18 = .ok (.iload_n 2, 1) := by decide +kernel
theorem dX1_put_19 : decode cX1_put 19 = .ok (.iastore, 1) := by decide +kernel
theorem dX1_put_20 : decode cX1_put 20 = .ok (.return_, 1) := by decide +kernel
set_option maxRecDepth 20000 in
theorem ggX1_copy_X1_holder : GoodIn wsX1_copy wsX1_holder := goodIn_r _ [6, 1, 7, 8] (by decide +kernel) (by decide +kernel)
set_option maxRecDepth 20000 in
theorem gX1_copy_X1_holder : GoodIn wsX1_copy (wsV RX1 25 RX1 yX1_holder wsX1_holder) := goodIn_app (goodIn_of _ (by decide +kernel)) ggX1_copy_X1_holder
theorem dX1_copy_0 : decode cX1_copy 0 = .ok (.iconst 0, 1) := by decide +kernel
theorem dX1_copy_1 : decode cX1_copy 1 = .ok (.istore_n 2, 1) := by decide +kernel
theorem dX1_copy_2 : decode cX1_copy 2 = .ok (.iload_n 2, 1) := by decide +kernel
theorem dX1_copy_3 : decode cX1_copy 3 = .ok (.aload_n 0, 1) := by decide +kernel
theorem dX1_copy_4 : decode cX1_copy 4 = .ok (.getfield 9, 3) := by decide +kernel
theorem dX1_copy_7 : decode cX1_copy 7 = .ok (.arraylength, 1) := by decide +kernel
theorem dX1_copy_8 : decode cX1_copy 8 = .ok (.if_icmp .ge 20, 3) := by decide +kernel
theorem dX1_copy_11 : decode cX1_copy 11 = .ok (.aload_n 0, 1) := by decide +kernel
theorem dX1_copy_12 : decode cX1_copy 12 = .ok (.getfield 9, 3) := by decide +kernel
theorem dX1_copy_15 : decode cX1_copy 15 = .ok (.iload_n 2, 1) := by decide +kernel
theorem dX1_copy_16 : decode cX1_copy 16 = .ok (.aload_n 1, 1) := by decide +kernel
theorem dX1_copy_17 : decode cX1_copy 17 = .ok (.iload_n 2, 1) := by decide +kernel
theorem dX1_copy_18 : decode cX1_copy 18 = .ok (.invokevirtual 25, 3) := by decide +kernel
theorem dX1_copy_21 : decode cX1_copy 21 = .ok (.iastore, 1) := by decide +kernel
theorem dX1_copy_22 : decode cX1_copy 22 = .ok (.iinc 2 1, 3) := by decide +kernel
theorem dX1_copy_25 : decode cX1_copy 25 = .ok (.goto (-23), 3) := by decide +kernel
theorem dX1_copy_28 : decode cX1_copy 28 = .ok (.return_, 1) := by decide +kernel
theorem dX1_toNumber_0 : decode cX1_toNumber 0 = .ok (.iconst 0, 1) := by decide +kernel
theorem dX1_toNumber_1 : decode cX1_toNumber 1 = .ok (.istore_n 1, 1) := by decide +kernel
theorem dX1_toNumber_2 : decode cX1_toNumber 2 = .ok (.aload_n 0, 1) := by decide +kernel
theorem dX1_toNumber_3 : decode cX1_toNumber 3 = .ok (.getfield 9, 3) := by decide +kernel
theorem dX1_toNumber_6 : decode cX1_toNumber 6 = .ok (.arraylength, 1) := by decide +kernel
theorem dX1_toNumber_7 : decode cX1_toNumber 7 = .ok (.iconst 1, 1) := by decide +kernel
theorem dX1_toNumber_8 : decode cX1_toNumber 8 = .ok (.isub, 1) := by decide +kernel
theorem dX1_toNumber_9 : decode cX1_toNumber 9 = .ok (.istore_n 2, 1) := by decide +kernel
theorem dX1_toNumber_10 : decode cX1_toNumber 10 = .ok (.iload_n 2, 1) := by decide +kernel
theorem dX1_toNumber_11 : decode cX1_toNumber 11 = .ok (.ifCond .lt 23, 3) := by decide +kernel
theorem dX1_toNumber_14 : decode cX1_toNumber 14 = .ok (.iload_n 1, 1) := by decide +kernel
theorem dX1_toNumber_15 : decode cX1_toNumber 15 = .ok (.bipush 6, 2) := by decide +kernel
theorem dX1_toNumber_17 : decode cX1_toNumber 17 = .ok (.imul, 1) := by decide +kernel
theorem dX1_toNumber_18 : decode cX1_toNumber 18 = .ok (.aload_n 0, 1) := by decide +kernel
theorem dX1_toNumber_19 : decode cX1_toNumber 19 = .ok (.getfield 9, 3) := by decide +kernel
theorem dX1_toNumber_22 : decode cX1_toNumber 22 = .ok (.iload_n 2, 1) := by decide +kernel
theorem dX1_toNumber_23 : decode cX1_toNumber 23 = .ok (.iaload, 1) := by decide +kernel
theorem dX1_toNumber_24 : decode cX1_toNumber 24 = .ok (.iadd, 1) := by decide +kernel
theorem dX1_toNumber_25 : decode cX1_toNumber 25 = .ok (.iconst 1, 1) := by decide +kernel
theorem dX1_toNumber_26 : decode cX1_toNumber 26 = .ok (.iadd, 1) := by decide +kernel
theorem dX1_toNumber_27 : decode cX1_toNumber 27 = .ok (.istore_n 1, 1) := by decide +kernel
theorem dX1_toNumber_28 : decode cX1_toNumber 28 = .ok (.iinc 2 (-1), 3) := by decide +kernel
theorem dX1_toNumber_31 : decode cX1_toNumber 31 = .ok (.goto (-21), 3) := by decide +kernel
theorem dX1_toNumber_34 : decode cX1_toNumber 34 = .ok (.iload_n 1, 1) := by decide +kernel
theorem dX1_toNumber_35 : decode cX1_toNumber 35 = .ok (.ireturn, 1) := by decide +kernel
theorem dX1_become_0 : decode cX1_become 0 = .ok (.iload_n 1, 1) := by decide +kernel
theorem dX1_become_1 : decode cX1_become 1 = .ok (.istore_n 2, 1) := by decide +kernel
theorem dX1_become_2 : decode cX1_become 2 = .ok (.iconst 0, 1) := by decide +kernel
theorem dX1_become_3 : decode cX1_become 3 = .ok (.istore_n 3, 1) := by decide +kernel
theorem dX1_become_4 : decode cX1_become 4 = .ok (.iload_n 3, 1) := by decide +kernel
theorem dX1_become_5 : decode cX1_become 5 = .ok (.aload_n 0, 1) := by decide +kernel
theorem dX1_become_6 : decode cX1_become 6 = .ok (.getfield 9, 3) := by decide +kernel
theorem dX1_become_9 : decode cX1_become 9 = .ok (.arraylength, 1) := by decide +kernel
theorem dX1_become_10 : decode cX1_become 10 = .ok (.if_icmp .ge 26, 3) := by decide +kernel
theorem dX1_become_13 : decode cX1_become 13 = .ok (.aload_n 0, 1) := by decide +kernel
theorem dX1_become_14 : decode cX1_become 14 = .ok (.getfield 9, 3) := by decide +kernel
theorem dX1_become_17 : decode cX1_become 17 = .ok (.iload_n 3, 1) := by decide +kernel
theorem dX1_become_18 : decode cX1_become 18 = .ok (.iload_n 2, 1) := by decide +kernel
theorem dX1_become_19 : decode cX1_become 19 = .ok (.bipush 6, 2) := by decide +kernel
theorem dX1_become_21 : decode cX1_become 21 = .ok (.irem, 1) := by decide +kernel
theorem dX1_become_22 : decode cX1_become 22 = .ok (.iconst 1, 1) := by decide +kernel
theorem dX1_become_23 : decode cX1_become 23 = .ok (.isub, 1) := by decide +kernel
theorem dX1_become_24 : decode cX1_become 24 = .ok (.iastore, 1) := by decide +kernel
theorem dX1_become_25 : decode cX1_become 25 = .ok (.iload_n 2, 1) := by decide +kernel
theorem dX1_become_26 : decode cX1_become 26 = .ok (.bipush 6, 2) := by decide +kernel
theorem dX1_become_28 : decode cX1_become 28 = .ok (.idiv, 1) := by decide +kernel
theorem dX1_become_29 : decode cX1_become 29 = .ok (.istore_n 2, 1) := by decide +kernel
theorem dX1_become_30 : decode cX1_become 30 = .ok (.iinc 3 1, 3) := by decide +kernel
theorem dX1_become_33 : decode cX1_become 33 = .ok (.goto (-29), 3) := by decide +kernel
theorem dX1_become_36 : decode cX1_become 36 = .ok (.return_, 1) := by decide +kernel
set_option maxRecDepth 20000 in
theorem ggX1_filled_X0_total : GoodIn wsX1_filled wsX0_total := goodIn_r _ [6, 7, 21, 22] (by decide +kernel) (by decide +kernel)
set_option maxRecDepth 20000 in
theorem gX1_filled_X0_total : GoodIn wsX1_filled (wsV RX1 29 RX0 yX0_total wsX0_total) := goodIn_app (goodIn_of _ (by decide +kernel)) ggX1_filled_X0_total
set_option maxRecDepth 20000 in
theorem ggX1_filled_X1_holder : GoodIn wsX1_filled wsX1_holder := goodIn_r _ [12, 13, 19, 20] (by decide +kernel) (by decide +kernel)
set_option maxRecDepth 20000 in
theorem gX1_filled_X1_holder : GoodIn wsX1_filled (wsV RX1 25 RX1 yX1_holder wsX1_holder) := goodIn_app (goodIn_of _ (by decide +kernel)) ggX1_filled_X1_holder
set_option maxRecDepth 20000 in
theorem ggX1_filled_X0_trait : GoodIn wsX1_filled wsX0_trait := goodIn_r _ [17, 18, 21, 22] (by decide +kernel) (by decide +kernel)
set_option maxRecDepth 20000 in
theorem gX1_filled_X0_trait : GoodIn wsX1_filled (wsV RX1 35 RX0 yX0_trait wsX0_trait) := goodIn_app (goodIn_of _ (by decide +kernel)) ggX1_filled_X0_trait
theorem dX1_filled_0 : decode cX1_filled 0 = .ok (.iconst 0, 1) := by decide +kernel
theorem dX1_filled_1 : decode cX1_filled 1 = .ok (.istore_n 2, 1) := by decide +kernel
theorem dX1_filled_2 : decode cX1_filled 2 = .ok (.iconst 0, 1) := by decide +kernel
theorem dX1_filled_3 : decode cX1_filled 3 = .ok (.istore_n 3, 1) := by decide +kernel
theorem dX1_filled_4 : decode cX1_filled 4 = .ok (.iload_n 3, 1) := by decide +kernel
theorem dX1_filled_5 : decode cX1_filled 5 = .ok (.aload_n 0, 1) := by decide +kernel
theorem dX1_filled_6 : decode cX1_filled 6 = .ok (.getfield 15, 3) := by decide +kernel
theorem dX1_filled_9 : decode cX1_filled 9 = .ok (.invokevirtual 29, 3) := by decide +kernel
theorem dX1_filled_12 : decode cX1_filled 12 = .ok (.if_icmp .ge 30, 3) := by decide +kernel
theorem dX1_filled_15 : decode cX1_filled 15 = .ok (.aload_n 0, 1) := by decide +kernel
theorem dX1_filled_16 : decode cX1_filled 16 = .ok (.iload_n 3, 1) := by decide +kernel
theorem dX1_filled_17 : decode cX1_filled 17 = .ok (.invokevirtual 25, 3) := by decide +kernel
theorem dX1_filled_20 : decode cX1_filled 20 = .ok (.iload_n 1, 1) := by decide +kernel
theorem dX1_filled_21 : decode cX1_filled 21 = .ok (.if_icmp .ne 15, 3) := by decide +kernel
theorem dX1_filled_24 : decode cX1_filled 24 = .ok (.iload_n 2, 1) := by decide +kernel
theorem dX1_filled_25 : decode cX1_filled 25 = .ok (.aload_n 0, 1) := by decide +kernel
theorem dX1_filled_26 : decode cX1_filled 26 = .ok (.getfield 15, 3) := by decide +kernel
theorem dX1_filled_29 : decode cX1_filled 29 = .ok (.iload_n 3, 1) := by decide +kernel
theorem dX1_filled_30 : decode cX1_filled 30 = .ok (.iconst 1, 1) := by decide +kernel
theorem dX1_filled_31 : decode cX1_filled 31 = .ok (.invokevirtual 35, 3) := by decide +kernel
theorem dX1_filled_34 : decode cX1_filled 34 = .ok (.iadd, 1) := by decide +kernel
theorem dX1_filled_35 : decode cX1_filled 35 = .ok (.istore_n 2, 1) := by decide +kernel
theorem dX1_filled_36 : decode cX1_filled 36 = .ok (.iinc 3 1, 3) := by decide +kernel
theorem dX1_filled_39 : decode cX1_filled 39 = .ok (.goto (-35), 3) := by decide +kernel
theorem dX1_filled_42 : decode cX1_filled 42 = .ok (.iload_n 2, 1) := by decide +kernel
theorem dX1_filled_43 : decode cX1_filled 43 = .ok (.ireturn, 1) := by decide +kernel
set_option maxRecDepth 20000 in
theorem ggX1_outside_X0_total : GoodIn wsX1_outside wsX0_total := goodIn_r _ [6, 7, 16, 17] (by decide +kernel) (by decide +kernel)
set_option maxRecDepth 20000 in
theorem gX1_outside_X0_total : GoodIn wsX1_outside (wsV RX1 29 RX0 yX0_total wsX0_total) := goodIn_app (goodIn_of _ (by decide +kernel)) ggX1_outside_X0_total
set_option maxRecDepth 20000 in
theorem ggX1_outside_X1_holder : GoodIn wsX1_outside wsX1_holder := goodIn_r _ [12, 13, 14, 15] (by decide +kernel) (by decide +kernel)
set_option maxRecDepth 20000 in
theorem gX1_outside_X1_holder : GoodIn wsX1_outside (wsV RX1 25 RX1 yX1_holder wsX1_holder) := goodIn_app (goodIn_of _ (by decide +kernel)) ggX1_outside_X1_holder
theorem dX1_outside_0 : decode cX1_outside 0 = .ok (.iconst 0, 1) := by decide +kernel
theorem dX1_outside_1 : decode cX1_outside 1 = .ok (.istore_n 1, 1) := by decide +kernel
theorem dX1_outside_2 : decode cX1_outside 2 = .ok (.iconst 0, 1) := by decide +kernel
theorem dX1_outside_3 : decode cX1_outside 3 = .ok (.istore_n 2, 1) := by decide +kernel
theorem dX1_outside_4 : decode cX1_outside 4 = .ok (.iload_n 2, 1) := by decide +kernel
theorem dX1_outside_5 : decode cX1_outside 5 = .ok (.aload_n 0, 1) := by decide +kernel
theorem dX1_outside_6 : decode cX1_outside 6 = .ok (.getfield 15, 3) := by decide +kernel
theorem dX1_outside_9 : decode cX1_outside 9 = .ok (.invokevirtual 29, 3) := by decide +kernel
theorem dX1_outside_12 : decode cX1_outside 12 = .ok (.if_icmp .ge 21, 3) := by decide +kernel
theorem dX1_outside_15 : decode cX1_outside 15 = .ok (.aload_n 0, 1) := by decide +kernel
theorem dX1_outside_16 : decode cX1_outside 16 = .ok (.iload_n 2, 1) := by decide +kernel
theorem dX1_outside_17 : decode cX1_outside 17 = .ok (.invokevirtual 25, 3) := by decide +kernel
theorem dX1_outside_20 : decode cX1_outside 20 = .ok (.iconst (-1), 1) := by decide +kernel
theorem dX1_outside_21 : decode cX1_outside 21 = .ok (.if_icmp .ne 6, 3) := by decide +kernel
theorem dX1_outside_24 : decode cX1_outside 24 = .ok (.iinc 1 1, 3) := by decide +kernel
theorem dX1_outside_27 : decode cX1_outside 27 = .ok (.iinc 2 1, 3) := by decide +kernel
theorem dX1_outside_30 : decode cX1_outside 30 = .ok (.goto (-26), 3) := by decide +kernel
theorem dX1_outside_33 : decode cX1_outside 33 = .ok (.iload_n 1, 1) := by decide +kernel
theorem dX1_outside_34 : decode cX1_outside 34 = .ok (.ireturn, 1) := by decide +kernel
theorem dX1_areOutside_0 : decode cX1_areOutside 0 = .ok (.iconst 0, 1) := by decide +kernel
theorem dX1_areOutside_1 : decode cX1_areOutside 1 = .ok (.istore_n 2, 1) := by decide +kernel
theorem dX1_areOutside_2 : decode cX1_areOutside 2 = .ok (.iload_n 2, 1) := by decide +kernel
theorem dX1_areOutside_3 : decode cX1_areOutside 3 = .ok (.aload_n 0, 1) := by decide +kernel
theorem dX1_areOutside_4 : decode cX1_areOutside 4 = .ok (.getfield 9, 3) := by decide +kernel
theorem dX1_areOutside_7 : decode cX1_areOutside 7 = .ok (.arraylength, 1) := by decide +kernel
theorem dX1_areOutside_8 : decode cX1_areOutside 8 = .ok (.if_icmp .ge 30, 3) := by decide +kernel
theorem dX1_areOutside_11 : decode cX1_areOutside 11 = .ok (.iload_n 1, 1) := by decide +kernel
theorem dX1_areOutside_12 : decode cX1_areOutside 12 = .ok (.iload_n 2, 1) := by decide +kernel
theorem dX1_areOutside_13 : decode cX1_areOutside 13 = .ok (.ishr, 1) := by decide +kernel
theorem dX1_areOutside_14 : decode cX1_areOutside 14 = .ok (.iconst 1, 1) := by decide +kernel
theorem dX1_areOutside_15 : decode cX1_areOutside 15 = .ok (.iand, 1) := by decide +kernel
theorem dX1_areOutside_16 : decode cX1_areOutside 16 = .ok (.iconst 1, 1) := by decide +kernel
theorem dX1_areOutside_17 : decode cX1_areOutside 17 = .ok (.if_icmp .ne 15, 3) := by decide +kernel
theorem dX1_areOutside_20 : decode cX1_areOutside 20 = .ok (.aload_n 0, 1) := by decide +kernel
theorem dX1_areOutside_21 : decode cX1_areOutside 21 = .ok (.getfield 9, 3) := by decide +kernel
theorem dX1_areOutside_24 : decode cX1_areOutside 24 = .ok (.iload_n 2, 1) := by decide +kernel
theorem dX1_areOutside_25 : decode cX1_areOutside 25 = .ok (.iaload, 1) := by decide +kernel
theorem dX1_areOutside_26 : decode cX1_areOutside 26 = .ok (.iconst (-1), 1) := by decide +kernel
theorem dX1_areOutside_27 : decode cX1_areOutside 27 = .ok (.if_icmp .eq 5, 3) := by decide +kernel
theorem dX1_areOutside_30 : decode cX1_areOutside 30 = .ok (.iconst 0, 1) := by decide +kernel
theorem dX1_areOutside_31 : decode cX1_areOutside 31 = .ok (.ireturn, 1) := by decide +kernel
theorem dX1_areOutside_32 : decode cX1_areOutside 32 = .ok (.iinc 2 1, 3) := by decide +kernel
theorem dX1_areOutside_35 : decode cX1_areOutside 35 = .ok (.goto (-33), 3) := by decide +kernel
theorem dX1_areOutside_38 : decode cX1_areOutside 38 = .ok (.iconst 1, 1) := by decide +kernel
theorem dX1_areOutside_39 : decode cX1_areOutside 39 = .ok (.ireturn, 1) := by decide +kernel
set_option maxRecDepth 20000 in
theorem ggX1_walls_X1_holder : GoodIn wsX1_walls wsX1_holder := goodIn_r _ [5, 6, 7, 8] (by decide +kernel) (by decide +kernel)
set_option maxRecDepth 20000 in
theorem gX1_walls_X1_holder : GoodIn wsX1_walls (wsV RX1 25 RX1 yX1_holder wsX1_holder) := goodIn_app (goodIn_of _ (by decide +kernel)) ggX1_walls_X1_holder
theorem dX1_walls_0 : decode cX1_walls 0 = .ok (.iconst 0, 1) := by decide +kernel
theorem dX1_walls_1 : decode cX1_walls 1 = .ok (.istore_n 2, 1) := by decide +kernel
theorem dX1_walls_2 : decode cX1_walls 2 = .ok (.aload_n 0, 1) := by decide +kernel
theorem dX1_walls_3 : decode cX1_walls 3 = .ok (.iload_n 1, 1) := by decide +kernel
theorem dX1_walls_4 : decode cX1_walls 4 = .ok (.invokevirtual 25, 3) := by decide +kernel
theorem dX1_walls_7 : decode cX1_walls 7 = .ok (.istore_n 3, 1) := by decide +kernel
theorem dX1_walls_8 : decode cX1_walls 8 = .ok (.iload_n 3, 1) := by decide +kernel
theorem dX1_walls_9 : decode cX1_walls 9 = .ok (.iconst (-1), 1) := by decide +kernel
theorem dX1_walls_10 : decode cX1_walls 10 = .ok (.if_icmp .eq 20, 3) := by decide +kernel
theorem dX1_walls_13 : decode cX1_walls 13 = .ok (.iload_n 2, 1) := by decide +kernel
theorem dX1_walls_14 : decode cX1_walls 14 = .ok (.iconst 5, 1) := by decide +kernel
theorem dX1_walls_15 : decode cX1_walls 15 = .ok (.if_icmp .ge 15, 3) := by decide +kernel
theorem dX1_walls_18 : decode cX1_walls 18 = .ok (.iinc 2 1, 3) := by decide +kernel
theorem dX1_walls_21 : decode cX1_walls 21 = .ok (.aload_n 0, 1) := by decide +kernel
theorem dX1_walls_22 : decode cX1_walls 22 = .ok (.iload_n 3, 1) := by decide +kernel
theorem dX1_walls_23 : decode cX1_walls 23 = .ok (.invokevirtual 25, 3) := by decide +kernel
theorem dX1_walls_26 : decode cX1_walls 26 = .ok (.istore_n 3, 1) := by decide +kernel
theorem dX1_walls_27 : decode cX1_walls 27 = .ok (.goto (-19), 3) := by decide +kernel
theorem dX1_walls_30 : decode cX1_walls 30 = .ok (.iload_n 2, 1) := by decide +kernel
theorem dX1_walls_31 : decode cX1_walls 31 = .ok (.ireturn, 1) := by decide +kernel
set_option maxRecDepth 20000 in
theorem ggX1_heardBy_X0_total : GoodIn wsX1_heardBy wsX0_total := goodIn_r _ [6, 7, 20, 21] (by decide +kernel) (by decide +kernel)
set_option maxRecDepth 20000 in
theorem gX1_heardBy_X0_total : GoodIn wsX1_heardBy (wsV RX1 29 RX0 yX0_total wsX0_total) := goodIn_app (goodIn_of _ (by decide +kernel)) ggX1_heardBy_X0_total
set_option maxRecDepth 20000 in
theorem ggX1_heardBy_X1_hears : GoodIn wsX1_heardBy wsX1_hears := goodIn_r _ [12, 13, 14, 15, 11, 16, 17, 18, 19] (by decide +kernel) (by decide +kernel)
set_option maxRecDepth 20000 in
theorem gX1_heardBy_X1_hears : GoodIn wsX1_heardBy (wsV RX1 39 RX1 yX1_hears wsX1_hears) := goodIn_app (goodIn_of _ (by decide +kernel)) ggX1_heardBy_X1_hears
theorem dX1_heardBy_0 : decode cX1_heardBy 0 = .ok (.iconst 0, 1) := by decide +kernel
theorem dX1_heardBy_1 : decode cX1_heardBy 1 = .ok (.istore_n 2, 1) := by decide +kernel
theorem dX1_heardBy_2 : decode cX1_heardBy 2 = .ok (.iconst 0, 1) := by decide +kernel
theorem dX1_heardBy_3 : decode cX1_heardBy 3 = .ok (.istore_n 3, 1) := by decide +kernel
theorem dX1_heardBy_4 : decode cX1_heardBy 4 = .ok (.iload_n 3, 1) := by decide +kernel
theorem dX1_heardBy_5 : decode cX1_heardBy 5 = .ok (.aload_n 0, 1) := by decide +kernel
theorem dX1_heardBy_6 : decode cX1_heardBy 6 = .ok (.getfield 15, 3) := by decide +kernel
theorem dX1_heardBy_9 : decode cX1_heardBy 9 = .ok (.invokevirtual 29, 3) := by decide +kernel
theorem dX1_heardBy_12 : decode cX1_heardBy 12 = .ok (.if_icmp .ge 29, 3) := by decide +kernel
theorem dX1_heardBy_15 : decode cX1_heardBy 15 = .ok (.iload_n 3, 1) := by decide +kernel
theorem dX1_heardBy_16 : decode cX1_heardBy 16 = .ok (.iload_n 1, 1) := by decide +kernel
theorem dX1_heardBy_17 : decode cX1_heardBy 17 = .ok (.if_icmp .eq 18, 3) := by decide +kernel
theorem dX1_heardBy_20 : decode cX1_heardBy 20 = .ok (.aload_n 0, 1) := by decide +kernel
theorem dX1_heardBy_21 : decode cX1_heardBy 21 = .ok (.iload_n 1, 1) := by decide +kernel
theorem dX1_heardBy_22 : decode cX1_heardBy 22 = .ok (.iload_n 3, 1) := by decide +kernel
theorem dX1_heardBy_23 : decode cX1_heardBy 23 = .ok (.invokevirtual 39, 3) := by decide +kernel
theorem dX1_heardBy_26 : decode cX1_heardBy 26 = .ok (.ifCond .eq 9, 3) := by decide +kernel
theorem dX1_heardBy_29 : decode cX1_heardBy 29 = .ok (.iload_n 2, 1) := by decide +kernel
theorem dX1_heardBy_30 : decode cX1_heardBy 30 = .ok (.iconst 1, 1) := by decide +kernel
theorem dX1_heardBy_31 : decode cX1_heardBy 31 = .ok (.iload_n 3, 1) := by decide +kernel
theorem dX1_heardBy_32 : decode cX1_heardBy 32 = .ok (.ishl, 1) := by decide +kernel
theorem dX1_heardBy_33 : decode cX1_heardBy 33 = .ok (.ior, 1) := by decide +kernel
theorem dX1_heardBy_34 : decode cX1_heardBy 34 = .ok (.istore_n 2, 1) := by decide +kernel
theorem dX1_heardBy_35 : decode cX1_heardBy 35 = .ok (.iinc 3 1, 3) := by decide +kernel
theorem dX1_heardBy_38 : decode cX1_heardBy 38 = .ok (.goto (-34), 3) := by decide +kernel
theorem dX1_heardBy_41 : decode cX1_heardBy 41 = .ok (.iload_n 2, 1) := by decide +kernel
theorem dX1_heardBy_42 : decode cX1_heardBy 42 = .ok (.ireturn, 1) := by decide +kernel
set_option maxRecDepth 20000 in
theorem ggX1_hears_X1_holder : GoodIn wsX1_hears wsX1_holder := goodIn_r _ [5, 6, 7, 8] (by decide +kernel) (by decide +kernel)
set_option maxRecDepth 20000 in
theorem gX1_hears_X1_holder : GoodIn wsX1_hears (wsV RX1 25 RX1 yX1_holder wsX1_holder) := goodIn_app (goodIn_of _ (by decide +kernel)) ggX1_hears_X1_holder
theorem dX1_hears_0 : decode cX1_hears 0 = .ok (.aload_n 0, 1) := by decide +kernel
theorem dX1_hears_1 : decode cX1_hears 1 = .ok (.iload_n 1, 1) := by decide +kernel
theorem dX1_hears_2 : decode cX1_hears 2 = .ok (.invokevirtual 25, 3) := by decide +kernel
theorem dX1_hears_5 : decode cX1_hears 5 = .ok (.istore_n 3, 1) := by decide +kernel
theorem dX1_hears_6 : decode cX1_hears 6 = .ok (.aload_n 0, 1) := by decide +kernel
theorem dX1_hears_7 : decode cX1_hears 7 = .ok (.iload_n 2, 1) := by decide +kernel
theorem dX1_hears_8 : decode cX1_hears 8 = .ok (.invokevirtual 25, 3) := by decide +kernel
theorem dX1_hears_11 : decode cX1_hears 11 = .ok (.istore 4, 2) := by decide +kernel
theorem dX1_hears_13 : decode cX1_hears 13 = .ok (.iload_n 3, 1) := by decide +kernel
theorem dX1_hears_14 : decode cX1_hears 14 = .ok (.iload 4, 2) := by decide +kernel
theorem dX1_hears_16 : decode cX1_hears 16 = .ok (.if_icmp .eq 34, 3) := by decide +kernel
theorem dX1_hears_19 : decode cX1_hears 19 = .ok (.iload_n 3, 1) := by decide +kernel
theorem dX1_hears_20 : decode cX1_hears 20 = .ok (.iconst (-1), 1) := by decide +kernel
theorem dX1_hears_21 : decode cX1_hears 21 = .ok (.if_icmp .eq 13, 3) := by decide +kernel
theorem dX1_hears_24 : decode cX1_hears 24 = .ok (.aload_n 0, 1) := by decide +kernel
theorem dX1_hears_25 : decode cX1_hears 25 = .ok (.iload_n 3, 1) := by decide +kernel
theorem dX1_hears_26 : decode cX1_hears 26 = .ok (.invokevirtual 25, 3) := by decide +kernel
theorem dX1_hears_29 : decode cX1_hears 29 = .ok (.iload 4, 2) := by decide +kernel
theorem dX1_hears_31 : decode cX1_hears 31 = .ok (.if_icmp .eq 19, 3) := by decide +kernel
theorem dX1_hears_34 : decode cX1_hears 34 = .ok (.iload 4, 2) := by decide +kernel
theorem dX1_hears_36 : decode cX1_hears 36 = .ok (.iconst (-1), 1) := by decide +kernel
theorem dX1_hears_37 : decode cX1_hears 37 = .ok (.if_icmp .eq 17, 3) := by decide +kernel
theorem dX1_hears_40 : decode cX1_hears 40 = .ok (.aload_n 0, 1) := by decide +kernel
theorem dX1_hears_41 : decode cX1_hears 41 = .ok (.iload 4, 2) := by decide +kernel
theorem dX1_hears_43 : decode cX1_hears 43 = .ok (.invokevirtual 25, 3) := by decide +kernel
theorem dX1_hears_46 : decode cX1_hears 46 = .ok (.iload_n 3, 1) := by decide +kernel
theorem dX1_hears_47 : decode cX1_hears 47 = .ok (.if_icmp .ne 7, 3) := by decide +kernel
theorem dX1_hears_50 : decode cX1_hears 50 = .ok (.iconst 1, 1) := by decide +kernel
theorem dX1_hears_51 : decode cX1_hears 51 = .ok (.goto 4, 3) := by decide +kernel
theorem dX1_hears_54 : decode cX1_hears 54 = .ok (.iconst 0, 1) := by decide +kernel
theorem dX1_hears_55 : decode cX1_hears 55 = .ok (.ireturn, 1) := by decide +kernel
set_option maxRecDepth 20000 in
theorem ggX1_allows_X0_knows : GoodIn wsX1_allows wsX0_knows := goodIn_r _ [6, 7, 8, 9, 10, 11, 12, 13, 14, 5, 15, 16, 17, 18, 19, 59, 60] (by decide +kernel) (by decide +kernel)
set_option maxRecDepth 20000 in
theorem gX1_allows_X0_knows : GoodIn wsX1_allows (wsV RX1 43 RX0 yX0_knows wsX0_knows) := goodIn_app (goodIn_of _ (by decide +kernel)) ggX1_allows_X0_knows
set_option maxRecDepth 20000 in
theorem ggX1_allows_X5_doer : GoodIn wsX1_allows wsX5_doer := goodIn_r _ [11] (by decide +kernel) (by decide +kernel)
set_option maxRecDepth 20000 in
theorem gX1_allows_X5_doer_n47 : GoodIn wsX1_allows (wsX5_doer) := ggX1_allows_X5_doer
set_option maxRecDepth 20000 in
theorem ggX1_allows_X5_prey : GoodIn wsX1_allows wsX5_prey := goodIn_r _ [18, 19, 10, 8, 11] (by decide +kernel) (by decide +kernel)
set_option maxRecDepth 20000 in
theorem gX1_allows_X5_prey_n50 : GoodIn wsX1_allows (wsX5_prey) := ggX1_allows_X5_prey
set_option maxRecDepth 20000 in
theorem ggX1_allows_X1_canSwallow : GoodIn wsX1_allows wsX1_canSwallow := goodIn_r _ [24, 1, 25, 26, 27, 23, 28, 29, 30, 31, 32, 5, 33, 34, 35, 36, 37, 38, 39, 40, 41, 42, 43, 44, 45, 46, 47, 48, 16, 57, 58, 59, 60] (by decide +kernel) (by decide +kernel)
set_option maxRecDepth 20000 in
theorem gX1_allows_X1_canSwallow : GoodIn wsX1_allows (wsV RX1 53 RX1 yX1_canSwallow wsX1_canSwallow) := goodIn_app (goodIn_of _ (by decide +kernel)) ggX1_allows_X1_canSwallow
set_option maxRecDepth 20000 in
theorem ggX1_allows_X1_comingOut : GoodIn wsX1_allows wsX1_comingOut := goodIn_r _ [52, 1, 10, 8, 11, 30, 31, 32, 5, 33, 34, 35, 36, 37, 38, 39, 45, 46, 47, 48, 16, 25, 26, 27, 23, 28, 29, 57, 58, 59, 60] (by decide +kernel) (by decide +kernel)
set_option maxRecDepth 20000 in
theorem gX1_allows_X1_comingOut : GoodIn wsX1_allows (wsV RX1 56 RX1 yX1_comingOut wsX1_comingOut) := goodIn_app (goodIn_of _ (by decide +kernel)) ggX1_allows_X1_comingOut
set_option maxRecDepth 20000 in
theorem ggX1_allows_X1_holder : GoodIn wsX1_allows wsX1_holder := goodIn_r _ [28, 29, 57, 58] (by decide +kernel) (by decide +kernel)
set_option maxRecDepth 20000 in
theorem gX1_allows_X1_holder : GoodIn wsX1_allows (wsV RX1 25 RX1 yX1_holder wsX1_holder) := goodIn_app (goodIn_of _ (by decide +kernel)) ggX1_allows_X1_holder
set_option maxRecDepth 20000 in
theorem ggX1_allows_X1_canTake : GoodIn wsX1_allows wsX1_canTake := goodIn_r _ [56, 1, 41, 42, 43, 23, 44, 45, 46, 47, 5, 48, 16, 25, 26, 27, 28, 29, 40, 36, 37, 38, 39, 57, 58, 59, 60] (by decide +kernel) (by decide +kernel)
set_option maxRecDepth 20000 in
theorem gX1_allows_X1_canTake : GoodIn wsX1_allows (wsV RX1 59 RX1 yX1_canTake wsX1_canTake) := goodIn_app (goodIn_of _ (by decide +kernel)) ggX1_allows_X1_canTake
theorem dX1_allows_0 : decode cX1_allows 0 = .ok (.aload_n 0, 1) := by decide +kernel
theorem dX1_allows_1 : decode cX1_allows 1 = .ok (.getfield 15, 3) := by decide +kernel
theorem dX1_allows_4 : decode cX1_allows 4 = .ok (.iload_n 1, 1) := by decide +kernel
theorem dX1_allows_5 : decode cX1_allows 5 = .ok (.invokevirtual 43, 3) := by decide +kernel
theorem dX1_allows_8 : decode cX1_allows 8 = .ok (.ifCond .ne 5, 3) := by decide +kernel
theorem dX1_allows_11 : decode cX1_allows 11 = .ok (.iconst 0, 1) := by decide +kernel
theorem dX1_allows_12 : decode cX1_allows 12 = .ok (.ireturn, 1) := by decide +kernel
theorem dX1_allows_13 : decode cX1_allows 13 = .ok (.iload_n 1, 1) := by decide +kernel
theorem dX1_allows_14 : decode cX1_allows 14 = .ok (.invokestatic 47, 3) := by decide +kernel
theorem dX1_allows_17 : decode cX1_allows 17 = .ok (.istore_n 2, 1) := by decide +kernel
theorem dX1_allows_18 : decode cX1_allows 18 = .ok (.iload_n 1, 1) := by decide +kernel
theorem dX1_allows_19 : decode cX1_allows 19 = .ok (.bipush 25, 2) := by decide +kernel
theorem dX1_allows_21 : decode cX1_allows 21 = .ok (.if_icmp .ge 13, 3) := by decide +kernel
theorem dX1_allows_24 : decode cX1_allows 24 = .ok (.aload_n 0, 1) := by decide +kernel
theorem dX1_allows_25 : decode cX1_allows 25 = .ok (.iload_n 2, 1) := by decide +kernel
theorem dX1_allows_26 : decode cX1_allows 26 = .ok (.iload_n 1, 1) := by decide +kernel
theorem dX1_allows_27 : decode cX1_allows 27 = .ok (.invokestatic 50, 3) := by decide +kernel
theorem dX1_allows_30 : decode cX1_allows 30 = .ok (.invokevirtual 53, 3) := by decide +kernel
theorem dX1_allows_33 : decode cX1_allows 33 = .ok (.ireturn, 1) := by decide +kernel
theorem dX1_allows_34 : decode cX1_allows 34 = .ok (.aload_n 0, 1) := by decide +kernel
theorem dX1_allows_35 : decode cX1_allows 35 = .ok (.iload_n 1, 1) := by decide +kernel
theorem dX1_allows_36 : decode cX1_allows 36 = .ok (.invokevirtual 56, 3) := by decide +kernel
theorem dX1_allows_39 : decode cX1_allows 39 = .ok (.istore_n 3, 1) := by decide +kernel
theorem dX1_allows_40 : decode cX1_allows 40 = .ok (.iload_n 3, 1) := by decide +kernel
theorem dX1_allows_41 : decode cX1_allows 41 = .ok (.ifCond .eq 20, 3) := by decide +kernel
theorem dX1_allows_44 : decode cX1_allows 44 = .ok (.aload_n 0, 1) := by decide +kernel
theorem dX1_allows_45 : decode cX1_allows 45 = .ok (.aload_n 0, 1) := by decide +kernel
theorem dX1_allows_46 : decode cX1_allows 46 = .ok (.iload_n 2, 1) := by decide +kernel
theorem dX1_allows_47 : decode cX1_allows 47 = .ok (.invokevirtual 25, 3) := by decide +kernel
theorem dX1_allows_50 : decode cX1_allows 50 = .ok (.iload_n 3, 1) := by decide +kernel
theorem dX1_allows_51 : decode cX1_allows 51 = .ok (.invokevirtual 59, 3) := by decide +kernel
theorem dX1_allows_54 : decode cX1_allows 54 = .ok (.ifCond .eq 7, 3) := by decide +kernel
theorem dX1_allows_57 : decode cX1_allows 57 = .ok (.iconst 1, 1) := by decide +kernel
theorem dX1_allows_58 : decode cX1_allows 58 = .ok (.goto 4, 3) := by decide +kernel
theorem dX1_allows_61 : decode cX1_allows 61 = .ok (.iconst 0, 1) := by decide +kernel
theorem dX1_allows_62 : decode cX1_allows 62 = .ok (.ireturn, 1) := by decide +kernel
set_option maxRecDepth 20000 in
theorem ggX1_carryOut_X5_doer : GoodIn wsX1_carryOut wsX5_doer := goodIn_r _ [4] (by decide +kernel) (by decide +kernel)
set_option maxRecDepth 20000 in
theorem gX1_carryOut_X5_doer_n47 : GoodIn wsX1_carryOut (wsX5_doer) := ggX1_carryOut_X5_doer
set_option maxRecDepth 20000 in
theorem ggX1_carryOut_X5_prey : GoodIn wsX1_carryOut wsX5_prey := goodIn_r _ [6, 7, 2, 3, 4] (by decide +kernel) (by decide +kernel)
set_option maxRecDepth 20000 in
theorem gX1_carryOut_X5_prey_n50 : GoodIn wsX1_carryOut (wsX5_prey) := ggX1_carryOut_X5_prey
set_option maxRecDepth 20000 in
theorem ggX1_carryOut_X1_put : GoodIn wsX1_carryOut wsX1_put := goodIn_r _ [12, 1, 38, 39] (by decide +kernel) (by decide +kernel)
set_option maxRecDepth 20000 in
theorem gX1_carryOut_X1_put : GoodIn wsX1_carryOut (wsV RX1 62 RX1 yX1_put wsX1_put) := goodIn_app (goodIn_of _ (by decide +kernel)) ggX1_carryOut_X1_put
set_option maxRecDepth 20000 in
theorem ggX1_carryOut_X1_comingOut : GoodIn wsX1_carryOut wsX1_comingOut := goodIn_r _ [16, 17, 2, 3, 4, 18, 19, 20, 21, 22, 23, 24, 25, 26, 27, 28, 29, 30, 31, 32, 33, 34, 35, 36, 11, 37, 1, 38, 39, 40, 41] (by decide +kernel) (by decide +kernel)
set_option maxRecDepth 20000 in
theorem gX1_carryOut_X1_comingOut : GoodIn wsX1_carryOut (wsV RX1 56 RX1 yX1_comingOut wsX1_comingOut) := goodIn_app (goodIn_of _ (by decide +kernel)) ggX1_carryOut_X1_comingOut
set_option maxRecDepth 20000 in
theorem ggX1_carryOut_X1_holder : GoodIn wsX1_carryOut wsX1_holder := goodIn_r _ [37, 1, 38, 39] (by decide +kernel) (by decide +kernel)
set_option maxRecDepth 20000 in
theorem gX1_carryOut_X1_holder : GoodIn wsX1_carryOut (wsV RX1 25 RX1 yX1_holder wsX1_holder) := goodIn_app (goodIn_of _ (by decide +kernel)) ggX1_carryOut_X1_holder
theorem dX1_carryOut_0 : decode cX1_carryOut 0 = .ok (.iload_n 1, 1) := by decide +kernel
theorem dX1_carryOut_1 : decode cX1_carryOut 1 = .ok (.invokestatic 47, 3) := by decide +kernel
theorem dX1_carryOut_4 : decode cX1_carryOut 4 = .ok (.istore_n 2, 1) := by decide +kernel
theorem dX1_carryOut_5 : decode cX1_carryOut 5 = .ok (.iload_n 1, 1) := by decide +kernel
theorem dX1_carryOut_6 : decode cX1_carryOut 6 = .ok (.bipush 25, 2) := by decide +kernel
theorem dX1_carryOut_8 : decode cX1_carryOut 8 = .ok (.if_icmp .ge 13, 3) := by decide +kernel
theorem dX1_carryOut_11 : decode cX1_carryOut 11 = .ok (.aload_n 0, 1) := by decide +kernel
theorem dX1_carryOut_12 : decode cX1_carryOut 12 = .ok (.iload_n 1, 1) := by decide +kernel
theorem dX1_carryOut_13 : decode cX1_carryOut 13 = .ok (.invokestatic 50, 3) := by decide +kernel
theorem dX1_carryOut_16 : decode cX1_carryOut 16 = .ok (.iload_n 2, 1) := by decide +kernel
theorem dX1_carryOut_17 : decode cX1_carryOut 17 = .ok (.invokevirtual 62, 3) := by decide +kernel
theorem dX1_carryOut_20 : decode cX1_carryOut 20 = .ok (.return_, 1) := by decide +kernel
theorem dX1_carryOut_21 : decode cX1_carryOut 21 = .ok (.aload_n 0, 1) := by decide +kernel
theorem dX1_carryOut_22 : decode cX1_carryOut 22 = .ok (.iload_n 1, 1) := by decide +kernel
theorem dX1_carryOut_23 : decode cX1_carryOut 23 = .ok (.invokevirtual 56, 3) := by decide +kernel
theorem dX1_carryOut_26 : decode cX1_carryOut 26 = .ok (.istore_n 3, 1) := by decide +kernel
theorem dX1_carryOut_27 : decode cX1_carryOut 27 = .ok (.aload_n 0, 1) := by decide +kernel
theorem dX1_carryOut_28 : decode cX1_carryOut 28 = .ok (.iload_n 2, 1) := by decide +kernel
theorem dX1_carryOut_29 : decode cX1_carryOut 29 = .ok (.invokevirtual 25, 3) := by decide +kernel
theorem dX1_carryOut_32 : decode cX1_carryOut 32 = .ok (.istore 4, 2) := by decide +kernel
theorem dX1_carryOut_34 : decode cX1_carryOut 34 = .ok (.iconst 0, 1) := by decide +kernel
theorem dX1_carryOut_35 : decode cX1_carryOut 35 = .ok (.istore 5, 2) := by decide +kernel
theorem dX1_carryOut_37 : decode cX1_carryOut 37 = .ok (.iload 5, 2) := by decide +kernel
theorem dX1_carryOut_39 : decode cX1_carryOut 39 = .ok (.aload_n 0, 1) := by decide +kernel
theorem dX1_carryOut_40 : decode cX1_carryOut 40 = .ok (.getfield 9, 3) := by decide +kernel
theorem dX1_carryOut_43 : decode cX1_carryOut 43 = .ok (.arraylength, 1) := by decide +kernel
theorem dX1_carryOut_44 : decode cX1_carryOut 44 = .ok (.if_icmp .ge 28, 3) := by decide +kernel
theorem dX1_carryOut_47 : decode cX1_carryOut 47 = .ok (.iload_n 3, 1) := by decide +kernel
theorem dX1_carryOut_48 : decode cX1_carryOut 48 = .ok (.iload 5, 2) := by decide +kernel
theorem dX1_carryOut_50 : decode cX1_carryOut 50 = .ok (.ishr, 1) := by decide +kernel
theorem dX1_carryOut_51 : decode cX1_carryOut 51 = .ok (.iconst 1, 1) := by decide +kernel
theorem dX1_carryOut_52 : decode cX1_carryOut 52 = .ok (.iand, 1) := by decide +kernel
theorem dX1_carryOut_53 : decode cX1_carryOut 53 = .ok (.iconst 1, 1) := by decide +kernel
theorem dX1_carryOut_54 : decode cX1_carryOut 54 = .ok (.if_icmp .ne 12, 3) := by decide +kernel
theorem dX1_carryOut_57 : decode cX1_carryOut 57 = .ok (.aload_n 0, 1) := by decide +kernel
theorem dX1_carryOut_58 : decode cX1_carryOut 58 = .ok (.getfield 9, 3) := by decide +kernel
theorem dX1_carryOut_61 : decode cX1_carryOut 61 = .ok (.iload 5, 2) := by decide +kernel
theorem dX1_carryOut_63 : decode cX1_carryOut 63 = .ok (.iload 4, 2) := by decide +kernel
theorem dX1_carryOut_65 : decode cX1_carryOut 65 = .ok (.iastore, 1) := by decide +kernel
theorem dX1_carryOut_66 : decode cX1_carryOut 66 = .ok (.iinc 5 1, 3) := by decide +kernel
theorem dX1_carryOut_69 : decode cX1_carryOut 69 = .ok (.goto (-32), 3) := by decide +kernel
theorem dX1_carryOut_72 : decode cX1_carryOut 72 = .ok (.return_, 1) := by decide +kernel
set_option maxRecDepth 20000 in
theorem ggX1_canSwallow_X1_holder : GoodIn wsX1_canSwallow wsX1_holder := goodIn_r _ [6, 7, 29, 30] (by decide +kernel) (by decide +kernel)
set_option maxRecDepth 20000 in
theorem gX1_canSwallow_X1_holder : GoodIn wsX1_canSwallow (wsV RX1 25 RX1 yX1_holder wsX1_holder) := goodIn_app (goodIn_of _ (by decide +kernel)) ggX1_canSwallow_X1_holder
set_option maxRecDepth 20000 in
theorem ggX1_canSwallow_X0_isOf : GoodIn wsX1_canSwallow wsX0_isOf := goodIn_r _ [12, 13, 14, 15, 16, 11, 17, 18, 31, 32] (by decide +kernel) (by decide +kernel)
set_option maxRecDepth 20000 in
theorem gX1_canSwallow_X0_isOf : GoodIn wsX1_canSwallow (wsV RX1 66 RX0 yX0_isOf wsX0_isOf) := goodIn_app (goodIn_of _ (by decide +kernel)) ggX1_canSwallow_X0_isOf
set_option maxRecDepth 20000 in
theorem ggX1_canSwallow_X0_trait : GoodIn wsX1_canSwallow wsX0_trait := goodIn_r _ [17, 18, 31, 32] (by decide +kernel) (by decide +kernel)
set_option maxRecDepth 20000 in
theorem gX1_canSwallow_X0_trait : GoodIn wsX1_canSwallow (wsV RX1 35 RX0 yX0_trait wsX0_trait) := goodIn_app (goodIn_of _ (by decide +kernel)) ggX1_canSwallow_X0_trait
set_option maxRecDepth 20000 in
theorem ggX1_canSwallow_X1_filled : GoodIn wsX1_canSwallow wsX1_filled := goodIn_r _ [23, 1, 24, 25, 26, 11, 27, 28, 2, 3, 4, 5, 6, 7, 19, 15, 16, 17, 18, 29, 30, 31, 32] (by decide +kernel) (by decide +kernel)
set_option maxRecDepth 20000 in
theorem gX1_canSwallow_X1_filled : GoodIn wsX1_canSwallow (wsV RX1 69 RX1 yX1_filled wsX1_filled) := goodIn_app (goodIn_of _ (by decide +kernel)) ggX1_canSwallow_X1_filled
theorem dX1_canSwallow_0 : decode cX1_canSwallow 0 = .ok (.iload_n 1, 1) := by decide +kernel
theorem dX1_canSwallow_1 : decode cX1_canSwallow 1 = .ok (.iload_n 2, 1) := by decide +kernel
theorem dX1_canSwallow_2 : decode cX1_canSwallow 2 = .ok (.if_icmp .eq 28, 3) := by decide +kernel
theorem dX1_canSwallow_5 : decode cX1_canSwallow 5 = .ok (.aload_n 0, 1) := by decide +kernel
theorem dX1_canSwallow_6 : decode cX1_canSwallow 6 = .ok (.iload_n 1, 1) := by decide +kernel
theorem dX1_canSwallow_7 : decode cX1_canSwallow 7 = .ok (.invokevirtual 25, 3) := by decide +kernel
theorem dX1_canSwallow_10 : decode cX1_canSwallow 10 = .ok (.aload_n 0, 1) := by decide +kernel
theorem dX1_canSwallow_11 : decode cX1_canSwallow 11 = .ok (.iload_n 2, 1) := by decide +kernel
theorem dX1_canSwallow_12 : decode cX1_canSwallow 12 = .ok (.invokevirtual 25, 3) := by decide +kernel
theorem dX1_canSwallow_15 : decode cX1_canSwallow 15 = .ok (.if_icmp .ne 15, 3) := by decide +kernel
theorem dX1_canSwallow_18 : decode cX1_canSwallow 18 = .ok (.aload_n 0, 1) := by decide +kernel
theorem dX1_canSwallow_19 : decode cX1_canSwallow 19 = .ok (.getfield 15, 3) := by decide +kernel
theorem dX1_canSwallow_22 : decode cX1_canSwallow 22 = .ok (.iload_n 1, 1) := by decide +kernel
theorem dX1_canSwallow_23 : decode cX1_canSwallow 23 = .ok (.iconst 1, 1) := by decide +kernel
theorem dX1_canSwallow_24 : decode cX1_canSwallow 24 = .ok (.invokevirtual 66, 3) := by decide +kernel
theorem dX1_canSwallow_27 : decode cX1_canSwallow 27 = .ok (.ifCond .ne 5, 3) := by decide +kernel
theorem dX1_canSwallow_30 : decode cX1_canSwallow 30 = .ok (.iconst 0, 1) := by decide +kernel
theorem dX1_canSwallow_31 : decode cX1_canSwallow 31 = .ok (.ireturn, 1) := by decide +kernel
theorem dX1_canSwallow_32 : decode cX1_canSwallow 32 = .ok (.aload_n 0, 1) := by decide +kernel
theorem dX1_canSwallow_33 : decode cX1_canSwallow 33 = .ok (.getfield 15, 3) := by decide +kernel
theorem dX1_canSwallow_36 : decode cX1_canSwallow 36 = .ok (.iload_n 1, 1) := by decide +kernel
theorem dX1_canSwallow_37 : decode cX1_canSwallow 37 = .ok (.iconst 3, 1) := by decide +kernel
theorem dX1_canSwallow_38 : decode cX1_canSwallow 38 = .ok (.invokevirtual 35, 3) := by decide +kernel
theorem dX1_canSwallow_41 : decode cX1_canSwallow 41 = .ok (.aload_n 0, 1) := by decide +kernel
theorem dX1_canSwallow_42 : decode cX1_canSwallow 42 = .ok (.getfield 15, 3) := by decide +kernel
theorem dX1_canSwallow_45 : decode cX1_canSwallow 45 = .ok (.iload_n 2, 1) := by decide +kernel
theorem dX1_canSwallow_46 : decode cX1_canSwallow 46 = .ok (.iconst 0, 1) := by decide +kernel
theorem dX1_canSwallow_47 : decode cX1_canSwallow 47 = .ok (.invokevirtual 35, 3) := by decide +kernel
theorem dX1_canSwallow_50 : decode cX1_canSwallow 50 = .ok (.ishr, 1) := by decide +kernel
theorem dX1_canSwallow_51 : decode cX1_canSwallow 51 = .ok (.iconst 1, 1) := by decide +kernel
theorem dX1_canSwallow_52 : decode cX1_canSwallow 52 = .ok (.iand, 1) := by decide +kernel
theorem dX1_canSwallow_53 : decode cX1_canSwallow 53 = .ok (.iconst 1, 1) := by decide +kernel
theorem dX1_canSwallow_54 : decode cX1_canSwallow 54 = .ok (.if_icmp .ne 7, 3) := by decide +kernel
theorem dX1_canSwallow_57 : decode cX1_canSwallow 57 = .ok (.iconst 1, 1) := by decide +kernel
theorem dX1_canSwallow_58 : decode cX1_canSwallow 58 = .ok (.goto 4, 3) := by decide +kernel
theorem dX1_canSwallow_61 : decode cX1_canSwallow 61 = .ok (.iconst 0, 1) := by decide +kernel
theorem dX1_canSwallow_62 : decode cX1_canSwallow 62 = .ok (.istore_n 3, 1) := by decide +kernel
theorem dX1_canSwallow_63 : decode cX1_canSwallow 63 = .ok (.iload_n 3, 1) := by decide +kernel
theorem dX1_canSwallow_64 : decode cX1_canSwallow 64 = .ok (.ifCond .eq 30, 3) := by decide +kernel
theorem dX1_canSwallow_67 : decode cX1_canSwallow 67 = .ok (.aload_n 0, 1) := by decide +kernel
theorem dX1_canSwallow_68 : decode cX1_canSwallow 68 = .ok (.iload_n 1, 1) := by decide +kernel
theorem dX1_canSwallow_69 : decode cX1_canSwallow 69 = .ok (.invokevirtual 69, 3) := by decide +kernel
theorem dX1_canSwallow_72 : decode cX1_canSwallow 72 = .ok (.aload_n 0, 1) := by decide +kernel
theorem dX1_canSwallow_73 : decode cX1_canSwallow 73 = .ok (.getfield 15, 3) := by decide +kernel
theorem dX1_canSwallow_76 : decode cX1_canSwallow 76 = .ok (.iload_n 2, 1) := by decide +kernel
theorem dX1_canSwallow_77 : decode cX1_canSwallow 77 = .ok (.iconst 1, 1) := by decide +kernel
theorem dX1_canSwallow_78 : decode cX1_canSwallow 78 = .ok (.invokevirtual 35, 3) := by decide +kernel
theorem dX1_canSwallow_81 : decode cX1_canSwallow 81 = .ok (.iadd, 1) := by decide +kernel
theorem dX1_canSwallow_82 : decode cX1_canSwallow 82 = .ok (.aload_n 0, 1) := by decide +kernel
theorem dX1_canSwallow_83 : decode cX1_canSwallow 83 = .ok (.getfield 15, 3) := by decide +kernel
theorem dX1_canSwallow_86 : decode cX1_canSwallow 86 = .ok (.iload_n 1, 1) := by decide +kernel
theorem dX1_canSwallow_87 : decode cX1_canSwallow 87 = .ok (.iconst 2, 1) := by decide +kernel
theorem dX1_canSwallow_88 : decode cX1_canSwallow 88 = .ok (.invokevirtual 35, 3) := by decide +kernel
theorem dX1_canSwallow_91 : decode cX1_canSwallow 91 = .ok (.if_icmp .le 5, 3) := by decide +kernel
theorem dX1_canSwallow_94 : decode cX1_canSwallow 94 = .ok (.iconst 0, 1) := by decide +kernel
theorem dX1_canSwallow_95 : decode cX1_canSwallow 95 = .ok (.ireturn, 1) := by decide +kernel
theorem dX1_canSwallow_96 : decode cX1_canSwallow 96 = .ok (.aload_n 0, 1) := by decide +kernel
theorem dX1_canSwallow_97 : decode cX1_canSwallow 97 = .ok (.getfield 15, 3) := by decide +kernel
theorem dX1_canSwallow_100 : decode cX1_canSwallow 100 = .ok (.iload_n 2, 1) := by decide +kernel
theorem dX1_canSwallow_101 : decode cX1_canSwallow 101 = .ok (.iconst 2, 1) := by decide +kernel
theorem dX1_canSwallow_102 : decode cX1_canSwallow 102 = .ok (.invokevirtual 35, 3) := by decide +kernel
theorem dX1_canSwallow_105 : decode cX1_canSwallow 105 = .ok (.istore 4, 2) := by decide +kernel
theorem dX1_canSwallow_107 : decode cX1_canSwallow 107 = .ok (.iload 4, 2) := by decide +kernel
theorem dX1_canSwallow_109 : decode cX1_canSwallow 109 = .ok (.ifCond .eq 13, 3) := by decide +kernel
theorem dX1_canSwallow_112 : decode cX1_canSwallow 112 = .ok (.aload_n 0, 1) := by decide +kernel
theorem dX1_canSwallow_113 : decode cX1_canSwallow 113 = .ok (.iload_n 2, 1) := by decide +kernel
theorem dX1_canSwallow_114 : decode cX1_canSwallow 114 = .ok (.invokevirtual 69, 3) := by decide +kernel
theorem dX1_canSwallow_117 : decode cX1_canSwallow 117 = .ok (.iload 4, 2) := by decide +kernel
theorem dX1_canSwallow_119 : decode cX1_canSwallow 119 = .ok (.if_icmp .eq 7, 3) := by decide +kernel
theorem dX1_canSwallow_122 : decode cX1_canSwallow 122 = .ok (.iconst 1, 1) := by decide +kernel
theorem dX1_canSwallow_123 : decode cX1_canSwallow 123 = .ok (.goto 4, 3) := by decide +kernel
theorem dX1_canSwallow_126 : decode cX1_canSwallow 126 = .ok (.iconst 0, 1) := by decide +kernel
theorem dX1_canSwallow_127 : decode cX1_canSwallow 127 = .ok (.ireturn, 1) := by decide +kernel
set_option maxRecDepth 20000 in
theorem ggX1_comingOut_X5_doer : GoodIn wsX1_comingOut wsX5_doer := goodIn_r _ [4] (by decide +kernel) (by decide +kernel)
set_option maxRecDepth 20000 in
theorem gX1_comingOut_X5_doer_n47 : GoodIn wsX1_comingOut (wsX5_doer) := ggX1_comingOut_X5_doer
set_option maxRecDepth 20000 in
theorem ggX1_comingOut_X0_isOf : GoodIn wsX1_comingOut wsX0_isOf := goodIn_r _ [9, 10, 11, 12, 13, 8, 14, 15, 29, 30] (by decide +kernel) (by decide +kernel)
set_option maxRecDepth 20000 in
theorem gX1_comingOut_X0_isOf : GoodIn wsX1_comingOut (wsV RX1 66 RX0 yX0_isOf wsX0_isOf) := goodIn_app (goodIn_of _ (by decide +kernel)) ggX1_comingOut_X0_isOf
set_option maxRecDepth 20000 in
theorem ggX1_comingOut_X0_total : GoodIn wsX1_comingOut wsX0_total := goodIn_r _ [19, 20, 29, 30] (by decide +kernel) (by decide +kernel)
set_option maxRecDepth 20000 in
theorem gX1_comingOut_X0_total : GoodIn wsX1_comingOut (wsV RX1 29 RX0 yX0_total wsX0_total) := goodIn_app (goodIn_of _ (by decide +kernel)) ggX1_comingOut_X0_total
set_option maxRecDepth 20000 in
theorem ggX1_comingOut_X1_holder : GoodIn wsX1_comingOut wsX1_holder := goodIn_r _ [25, 26, 27, 28] (by decide +kernel) (by decide +kernel)
set_option maxRecDepth 20000 in
theorem gX1_comingOut_X1_holder : GoodIn wsX1_comingOut (wsV RX1 25 RX1 yX1_holder wsX1_holder) := goodIn_app (goodIn_of _ (by decide +kernel)) ggX1_comingOut_X1_holder
theorem dX1_comingOut_0 : decode cX1_comingOut 0 = .ok (.iload_n 1, 1) := by decide +kernel
theorem dX1_comingOut_1 : decode cX1_comingOut 1 = .ok (.invokestatic 47, 3) := by decide +kernel
theorem dX1_comingOut_4 : decode cX1_comingOut 4 = .ok (.istore_n 2, 1) := by decide +kernel
theorem dX1_comingOut_5 : decode cX1_comingOut 5 = .ok (.iload_n 1, 1) := by decide +kernel
theorem dX1_comingOut_6 : decode cX1_comingOut 6 = .ok (.bipush 40, 2) := by decide +kernel
theorem dX1_comingOut_8 : decode cX1_comingOut 8 = .ok (.if_icmp .lt 7, 3) := by decide +kernel
theorem dX1_comingOut_11 : decode cX1_comingOut 11 = .ok (.iconst 1, 1) := by decide +kernel
theorem dX1_comingOut_12 : decode cX1_comingOut 12 = .ok (.goto 4, 3) := by decide +kernel
theorem dX1_comingOut_15 : decode cX1_comingOut 15 = .ok (.iconst 0, 1) := by decide +kernel
theorem dX1_comingOut_16 : decode cX1_comingOut 16 = .ok (.istore_n 3, 1) := by decide +kernel
theorem dX1_comingOut_17 : decode cX1_comingOut 17 = .ok (.iload_n 3, 1) := by decide +kernel
theorem dX1_comingOut_18 : decode cX1_comingOut 18 = .ok (.ifCond .eq 17, 3) := by decide +kernel
theorem dX1_comingOut_21 : decode cX1_comingOut 21 = .ok (.aload_n 0, 1) := by decide +kernel
theorem dX1_comingOut_22 : decode cX1_comingOut 22 = .ok (.getfield 15, 3) := by decide +kernel
theorem dX1_comingOut_25 : decode cX1_comingOut 25 = .ok (.iload_n 2, 1) := by decide +kernel
theorem dX1_comingOut_26 : decode cX1_comingOut 26 = .ok (.iconst 2, 1) := by decide +kernel
theorem dX1_comingOut_27 : decode cX1_comingOut 27 = .ok (.invokevirtual 66, 3) := by decide +kernel
theorem dX1_comingOut_30 : decode cX1_comingOut 30 = .ok (.ifCond .eq 5, 3) := by decide +kernel
theorem dX1_comingOut_33 : decode cX1_comingOut 33 = .ok (.iconst 0, 1) := by decide +kernel
theorem dX1_comingOut_34 : decode cX1_comingOut 34 = .ok (.ireturn, 1) := by decide +kernel
theorem dX1_comingOut_35 : decode cX1_comingOut 35 = .ok (.iload_n 3, 1) := by decide +kernel
theorem dX1_comingOut_36 : decode cX1_comingOut 36 = .ok (.ifCond .eq 7, 3) := by decide +kernel
theorem dX1_comingOut_39 : decode cX1_comingOut 39 = .ok (.iconst 5, 1) := by decide +kernel
theorem dX1_comingOut_40 : decode cX1_comingOut 40 = .ok (.goto 20, 3) := by decide +kernel
theorem dX1_comingOut_43 : decode cX1_comingOut 43 = .ok (.aload_n 0, 1) := by decide +kernel
theorem dX1_comingOut_44 : decode cX1_comingOut 44 = .ok (.getfield 15, 3) := by decide +kernel
theorem dX1_comingOut_47 : decode cX1_comingOut 47 = .ok (.iload_n 2, 1) := by decide +kernel
theorem dX1_comingOut_48 : decode cX1_comingOut 48 = .ok (.iconst 3, 1) := by decide +kernel
theorem dX1_comingOut_49 : decode cX1_comingOut 49 = .ok (.invokevirtual 66, 3) := by decide +kernel
theorem dX1_comingOut_52 : decode cX1_comingOut 52 = .ok (.ifCond .eq 7, 3) := by decide +kernel
theorem dX1_comingOut_55 : decode cX1_comingOut 55 = .ok (.iconst 2, 1) := by decide +kernel
theorem dX1_comingOut_56 : decode cX1_comingOut 56 = .ok (.goto 4, 3) := by decide +kernel
theorem dX1_comingOut_59 : decode cX1_comingOut 59 = .ok (.iconst 1, 1) := by decide +kernel
theorem dX1_comingOut_60 : decode cX1_comingOut 60 = .ok (.istore 4, 2) := by decide +kernel
theorem dX1_comingOut_62 : decode cX1_comingOut 62 = .ok (.iconst 0, 1) := by decide +kernel
theorem dX1_comingOut_63 : decode cX1_comingOut 63 = .ok (.istore 5, 2) := by decide +kernel
theorem dX1_comingOut_65 : decode cX1_comingOut 65 = .ok (.aload_n 0, 1) := by decide +kernel
theorem dX1_comingOut_66 : decode cX1_comingOut 66 = .ok (.getfield 15, 3) := by decide +kernel
theorem dX1_comingOut_69 : decode cX1_comingOut 69 = .ok (.invokevirtual 29, 3) := by decide +kernel
theorem dX1_comingOut_72 : decode cX1_comingOut 72 = .ok (.iconst 1, 1) := by decide +kernel
theorem dX1_comingOut_73 : decode cX1_comingOut 73 = .ok (.isub, 1) := by decide +kernel
theorem dX1_comingOut_74 : decode cX1_comingOut 74 = .ok (.istore 6, 2) := by decide +kernel
theorem dX1_comingOut_76 : decode cX1_comingOut 76 = .ok (.iload 6, 2) := by decide +kernel
theorem dX1_comingOut_78 : decode cX1_comingOut 78 = .ok (.ifCond .lt 36, 3) := by decide +kernel
theorem dX1_comingOut_81 : decode cX1_comingOut 81 = .ok (.iload 4, 2) := by decide +kernel
theorem dX1_comingOut_83 : decode cX1_comingOut 83 = .ok (.ifCond .le 31, 3) := by decide +kernel
theorem dX1_comingOut_86 : decode cX1_comingOut 86 = .ok (.aload_n 0, 1) := by decide +kernel
theorem dX1_comingOut_87 : decode cX1_comingOut 87 = .ok (.iload 6, 2) := by decide +kernel
theorem dX1_comingOut_89 : decode cX1_comingOut 89 = .ok (.invokevirtual 25, 3) := by decide +kernel
theorem dX1_comingOut_92 : decode cX1_comingOut 92 = .ok (.iload_n 2, 1) := by decide +kernel
theorem dX1_comingOut_93 : decode cX1_comingOut 93 = .ok (.if_icmp .ne 15, 3) := by decide +kernel
theorem dX1_comingOut_96 : decode cX1_comingOut 96 = .ok (.iload 5, 2) := by decide +kernel
theorem dX1_comingOut_98 : decode cX1_comingOut 98 = .ok (.iconst 1, 1) := by decide +kernel
theorem dX1_comingOut_99 : decode cX1_comingOut 99 = .ok (.iload 6, 2) := by decide +kernel
theorem dX1_comingOut_101 : decode cX1_comingOut 101 = .ok (.ishl, 1) := by decide +kernel
theorem dX1_comingOut_102 : decode cX1_comingOut 102 = .ok (.ior, 1) := by decide +kernel
theorem dX1_comingOut_103 : decode cX1_comingOut 103 = .ok (.istore 5, 2) := by decide +kernel
theorem dX1_comingOut_105 : decode cX1_comingOut 105 = .ok (.iinc 4 (-1), 3) := by decide +kernel
theorem dX1_comingOut_108 : decode cX1_comingOut 108 = .ok (.iinc 6 (-1), 3) := by decide +kernel
theorem dX1_comingOut_111 : decode cX1_comingOut 111 = .ok (.goto (-35), 3) := by decide +kernel
theorem dX1_comingOut_114 : decode cX1_comingOut 114 = .ok (.iload 5, 2) := by decide +kernel
theorem dX1_comingOut_116 : decode cX1_comingOut 116 = .ok (.ireturn, 1) := by decide +kernel
set_option maxRecDepth 20000 in
theorem ggX1_canTake_X1_filled : GoodIn wsX1_canTake wsX1_filled := goodIn_r _ [6, 1, 7, 8, 9, 10, 11, 12, 13, 14, 15, 5, 16, 17, 18, 19, 20, 21, 22, 23, 24, 25, 26] (by decide +kernel) (by decide +kernel)
set_option maxRecDepth 20000 in
theorem gX1_canTake_X1_filled : GoodIn wsX1_canTake (wsV RX1 69 RX1 yX1_filled wsX1_filled) := goodIn_app (goodIn_of _ (by decide +kernel)) ggX1_canTake_X1_filled
set_option maxRecDepth 20000 in
theorem ggX1_canTake_X0_total : GoodIn wsX1_canTake wsX0_total := goodIn_r _ [11, 12, 25, 26] (by decide +kernel) (by decide +kernel)
set_option maxRecDepth 20000 in
theorem gX1_canTake_X0_total : GoodIn wsX1_canTake (wsV RX1 29 RX0 yX0_total wsX0_total) := goodIn_app (goodIn_of _ (by decide +kernel)) ggX1_canTake_X0_total
set_option maxRecDepth 20000 in
theorem ggX1_canTake_X0_trait : GoodIn wsX1_canTake wsX0_trait := goodIn_r _ [21, 22, 25, 26] (by decide +kernel) (by decide +kernel)
set_option maxRecDepth 20000 in
theorem gX1_canTake_X0_trait : GoodIn wsX1_canTake (wsV RX1 35 RX0 yX0_trait wsX0_trait) := goodIn_app (goodIn_of _ (by decide +kernel)) ggX1_canTake_X0_trait
theorem dX1_canTake_0 : decode cX1_canTake 0 = .ok (.iload_n 1, 1) := by decide +kernel
theorem dX1_canTake_1 : decode cX1_canTake 1 = .ok (.iconst (-1), 1) := by decide +kernel
theorem dX1_canTake_2 : decode cX1_canTake 2 = .ok (.if_icmp .ne 5, 3) := by decide +kernel
theorem dX1_canTake_5 : decode cX1_canTake 5 = .ok (.iconst 1, 1) := by decide +kernel
theorem dX1_canTake_6 : decode cX1_canTake 6 = .ok (.ireturn, 1) := by decide +kernel
theorem dX1_canTake_7 : decode cX1_canTake 7 = .ok (.aload_n 0, 1) := by decide +kernel
theorem dX1_canTake_8 : decode cX1_canTake 8 = .ok (.iload_n 1, 1) := by decide +kernel
theorem dX1_canTake_9 : decode cX1_canTake 9 = .ok (.invokevirtual 69, 3) := by decide +kernel
theorem dX1_canTake_12 : decode cX1_canTake 12 = .ok (.istore_n 3, 1) := by decide +kernel
theorem dX1_canTake_13 : decode cX1_canTake 13 = .ok (.iconst 0, 1) := by decide +kernel
theorem dX1_canTake_14 : decode cX1_canTake 14 = .ok (.istore 4, 2) := by decide +kernel
theorem dX1_canTake_16 : decode cX1_canTake 16 = .ok (.iload 4, 2) := by decide +kernel
theorem dX1_canTake_18 : decode cX1_canTake 18 = .ok (.aload_n 0, 1) := by decide +kernel
theorem dX1_canTake_19 : decode cX1_canTake 19 = .ok (.getfield 15, 3) := by decide +kernel
theorem dX1_canTake_22 : decode cX1_canTake 22 = .ok (.invokevirtual 29, 3) := by decide +kernel
theorem dX1_canTake_25 : decode cX1_canTake 25 = .ok (.if_icmp .ge 32, 3) := by decide +kernel
theorem dX1_canTake_28 : decode cX1_canTake 28 = .ok (.iload_n 2, 1) := by decide +kernel
theorem dX1_canTake_29 : decode cX1_canTake 29 = .ok (.iload 4, 2) := by decide +kernel
theorem dX1_canTake_31 : decode cX1_canTake 31 = .ok (.ishr, 1) := by decide +kernel
theorem dX1_canTake_32 : decode cX1_canTake 32 = .ok (.iconst 1, 1) := by decide +kernel
theorem dX1_canTake_33 : decode cX1_canTake 33 = .ok (.iand, 1) := by decide +kernel
theorem dX1_canTake_34 : decode cX1_canTake 34 = .ok (.iconst 1, 1) := by decide +kernel
theorem dX1_canTake_35 : decode cX1_canTake 35 = .ok (.if_icmp .ne 16, 3) := by decide +kernel
theorem dX1_canTake_38 : decode cX1_canTake 38 = .ok (.iload_n 3, 1) := by decide +kernel
theorem dX1_canTake_39 : decode cX1_canTake 39 = .ok (.aload_n 0, 1) := by decide +kernel
theorem dX1_canTake_40 : decode cX1_canTake 40 = .ok (.getfield 15, 3) := by decide +kernel
theorem dX1_canTake_43 : decode cX1_canTake 43 = .ok (.iload 4, 2) := by decide +kernel
theorem dX1_canTake_45 : decode cX1_canTake 45 = .ok (.iconst 1, 1) := by decide +kernel
theorem dX1_canTake_46 : decode cX1_canTake 46 = .ok (.invokevirtual 35, 3) := by decide +kernel
theorem dX1_canTake_49 : decode cX1_canTake 49 = .ok (.iadd, 1) := by decide +kernel
theorem dX1_canTake_50 : decode cX1_canTake 50 = .ok (.istore_n 3, 1) := by decide +kernel
theorem dX1_canTake_51 : decode cX1_canTake 51 = .ok (.iinc 4 1, 3) := by decide +kernel
theorem dX1_canTake_54 : decode cX1_canTake 54 = .ok (.goto (-38), 3) := by decide +kernel
theorem dX1_canTake_57 : decode cX1_canTake 57 = .ok (.iload_n 3, 1) := by decide +kernel
theorem dX1_canTake_58 : decode cX1_canTake 58 = .ok (.aload_n 0, 1) := by decide +kernel
theorem dX1_canTake_59 : decode cX1_canTake 59 = .ok (.getfield 15, 3) := by decide +kernel
theorem dX1_canTake_62 : decode cX1_canTake 62 = .ok (.iload_n 1, 1) := by decide +kernel
theorem dX1_canTake_63 : decode cX1_canTake 63 = .ok (.iconst 2, 1) := by decide +kernel
theorem dX1_canTake_64 : decode cX1_canTake 64 = .ok (.invokevirtual 35, 3) := by decide +kernel
theorem dX1_canTake_67 : decode cX1_canTake 67 = .ok (.if_icmp .gt 7, 3) := by decide +kernel
theorem dX1_canTake_70 : decode cX1_canTake 70 = .ok (.iconst 1, 1) := by decide +kernel
theorem dX1_canTake_71 : decode cX1_canTake 71 = .ok (.goto 4, 3) := by decide +kernel
theorem dX1_canTake_74 : decode cX1_canTake 74 = .ok (.iconst 0, 1) := by decide +kernel
theorem dX1_canTake_75 : decode cX1_canTake 75 = .ok (.ireturn, 1) := by decide +kernel
set_option maxRecDepth 20000 in
theorem ggX1_choices_X1_allows : GoodIn wsX1_choices wsX1_allows := goodIn_r _ [5, 6, 7, 8, 9, 10, 11, 12, 13, 14, 15, 16, 17, 18, 19, 20, 21, 22, 23, 24, 25, 26, 27, 4, 28, 29, 30, 31, 32, 33, 34, 35, 36, 37, 38, 39, 40, 41, 42, 43, 44, 45, 46, 47, 48, 49, 50, 51, 52, 53, 54, 55, 56, 57, 58, 59, 60, 61, 62, 63, 64] (by decide +kernel) (by decide +kernel)
set_option maxRecDepth 20000 in
theorem gX1_choices_X1_allows : GoodIn wsX1_choices (wsV RX1 72 RX1 yX1_allows wsX1_allows) := goodIn_app (goodIn_of _ (by decide +kernel)) ggX1_choices_X1_allows
theorem dX1_choices_0 : decode cX1_choices 0 = .ok (.iconst 0, 1) := by decide +kernel
theorem dX1_choices_1 : decode cX1_choices 1 = .ok (.istore_n 1, 1) := by decide +kernel
theorem dX1_choices_2 : decode cX1_choices 2 = .ok (.iconst 0, 1) := by decide +kernel
theorem dX1_choices_3 : decode cX1_choices 3 = .ok (.istore_n 2, 1) := by decide +kernel
theorem dX1_choices_4 : decode cX1_choices 4 = .ok (.iload_n 2, 1) := by decide +kernel
theorem dX1_choices_5 : decode cX1_choices 5 = .ok (.bipush 45, 2) := by decide +kernel
theorem dX1_choices_7 : decode cX1_choices 7 = .ok (.if_icmp .ge 20, 3) := by decide +kernel
theorem dX1_choices_10 : decode cX1_choices 10 = .ok (.aload_n 0, 1) := by decide +kernel
theorem dX1_choices_11 : decode cX1_choices 11 = .ok (.iload_n 2, 1) := by decide +kernel
theorem dX1_choices_12 : decode cX1_choices 12 = .ok (.invokevirtual 72, 3) := by decide +kernel
theorem dX1_choices_15 : decode cX1_choices 15 = .ok (.ifCond .eq 6, 3) := by decide +kernel
theorem dX1_choices_18 : decode cX1_choices 18 = .ok (.iinc 1 1, 3) := by decide +kernel
theorem dX1_choices_21 : decode cX1_choices 21 = .ok (.iinc 2 1, 3) := by decide +kernel
theorem dX1_choices_24 : decode cX1_choices 24 = .ok (.goto (-20), 3) := by decide +kernel
theorem dX1_choices_27 : decode cX1_choices 27 = .ok (.iload_n 1, 1) := by decide +kernel
theorem dX1_choices_28 : decode cX1_choices 28 = .ok (.ireturn, 1) := by decide +kernel
set_option maxRecDepth 20000 in
theorem ggX1_choiceAt_X1_allows : GoodIn wsX1_choiceAt wsX1_allows := goodIn_r _ [5, 6, 7, 8, 9, 10, 11, 12, 13, 14, 15, 16, 17, 18, 19, 20, 21, 22, 23, 24, 25, 26, 27, 4, 28, 29, 30, 31, 32, 33, 34, 35, 36, 37, 38, 39, 40, 41, 42, 43, 44, 45, 46, 47, 48, 49, 50, 51, 52, 53, 54, 55, 56, 57, 58, 59, 60, 61, 62, 63, 64] (by decide +kernel) (by decide +kernel)
set_option maxRecDepth 20000 in
theorem gX1_choiceAt_X1_allows : GoodIn wsX1_choiceAt (wsV RX1 72 RX1 yX1_allows wsX1_allows) := goodIn_app (goodIn_of _ (by decide +kernel)) ggX1_choiceAt_X1_allows
theorem dX1_choiceAt_0 : decode cX1_choiceAt 0 = .ok (.iconst 0, 1) := by decide +kernel
theorem dX1_choiceAt_1 : decode cX1_choiceAt 1 = .ok (.istore_n 2, 1) := by decide +kernel
theorem dX1_choiceAt_2 : decode cX1_choiceAt 2 = .ok (.iconst 0, 1) := by decide +kernel
theorem dX1_choiceAt_3 : decode cX1_choiceAt 3 = .ok (.istore_n 3, 1) := by decide +kernel
theorem dX1_choiceAt_4 : decode cX1_choiceAt 4 = .ok (.iload_n 3, 1) := by decide +kernel
theorem dX1_choiceAt_5 : decode cX1_choiceAt 5 = .ok (.bipush 45, 2) := by decide +kernel
theorem dX1_choiceAt_7 : decode cX1_choiceAt 7 = .ok (.if_icmp .ge 27, 3) := by decide +kernel
theorem dX1_choiceAt_10 : decode cX1_choiceAt 10 = .ok (.aload_n 0, 1) := by decide +kernel
theorem dX1_choiceAt_11 : decode cX1_choiceAt 11 = .ok (.iload_n 3, 1) := by decide +kernel
theorem dX1_choiceAt_12 : decode cX1_choiceAt 12 = .ok (.invokevirtual 72, 3) := by decide +kernel
theorem dX1_choiceAt_15 : decode cX1_choiceAt 15 = .ok (.ifCond .eq 13, 3) := by decide +kernel
theorem dX1_choiceAt_18 : decode cX1_choiceAt 18 = .ok (.iload_n 2, 1) := by decide +kernel
theorem dX1_choiceAt_19 : decode cX1_choiceAt 19 = .ok (.iload_n 1, 1) := by decide +kernel
theorem dX1_choiceAt_20 : decode cX1_choiceAt 20 = .ok (.if_icmp .ne 5, 3) := by decide +kernel
theorem dX1_choiceAt_23 : decode cX1_choiceAt 23 = .ok (.iload_n 3, 1) := by decide +kernel
theorem dX1_choiceAt_24 : decode cX1_choiceAt 24 = .ok (.ireturn, 1) := by decide +kernel
theorem dX1_choiceAt_25 : decode cX1_choiceAt 25 = .ok (.iinc 2 1, 3) := by decide +kernel
theorem dX1_choiceAt_28 : decode cX1_choiceAt 28 = .ok (.iinc 3 1, 3) := by decide +kernel
theorem dX1_choiceAt_31 : decode cX1_choiceAt 31 = .ok (.goto (-27), 3) := by decide +kernel
theorem dX1_choiceAt_34 : decode cX1_choiceAt 34 = .ok (.iconst (-1), 1) := by decide +kernel
theorem dX1_choiceAt_35 : decode cX1_choiceAt 35 = .ok (.ireturn, 1) := by decide +kernel
