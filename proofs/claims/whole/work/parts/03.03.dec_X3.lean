theorem dX3_init_0 : decode cX3_init 0 = .ok (.aload_n 0, 1) := by decide +kernel
theorem dX3_init_1 : decode cX3_init 1 = .ok (.invokespecial 3, 3) := by decide +kernel
theorem dX3_init_4 : decode cX3_init 4 = .ok (.aload_n 0, 1) := by decide +kernel
theorem dX3_init_5 : decode cX3_init 5 = .ok (.bipush 40, 2) := by decide +kernel
theorem dX3_init_7 : decode cX3_init 7 = .ok (.newarray .int, 2) := by decide +kernel
theorem dX3_init_9 : decode cX3_init 9 = .ok (.putfield 9, 3) := by decide +kernel
theorem dX3_init_12 : decode cX3_init 12 = .ok (.aload_n 0, 1) := by decide +kernel
theorem dX3_init_13 : decode cX3_init 13 = .ok (.bipush 10, 2) := by decide +kernel
theorem dX3_init_15 : decode cX3_init 15 = .ok (.newarray .int, 2) := by decide +kernel
theorem dX3_init_17 : decode cX3_init 17 = .ok (.putfield 15, 3) := by decide +kernel
theorem dX3_init_20 : decode cX3_init 20 = .ok (.return_, 1) := by decide +kernel
theorem dX3_length_0 : decode cX3_length 0 = .ok (.aload_n 0, 1) := by decide +kernel
theorem dX3_length_1 : decode cX3_length 1 = .ok (.getfield 18, 3) := by decide +kernel
theorem dX3_length_4 : decode cX3_length 4 = .ok (.ireturn, 1) := by decide +kernel
theorem dX3_letterAt_0 : decode cX3_letterAt 0 = .ok (.iload_n 1, 1) := by decide +kernel
theorem dX3_letterAt_1 : decode cX3_letterAt 1 = .ok (.ifCond .lt 21, 3) := by decide +kernel
theorem dX3_letterAt_4 : decode cX3_letterAt 4 = .ok (.iload_n 1, 1) := by decide +kernel
theorem dX3_letterAt_5 : decode cX3_letterAt 5 = .ok (.aload_n 0, 1) := by decide +kernel
theorem dX3_letterAt_6 : decode cX3_letterAt 6 = .ok (.getfield 9, 3) := by decide +kernel
theorem dX3_letterAt_9 : decode cX3_letterAt 9 = .ok (.arraylength, 1) := by decide +kernel
theorem dX3_letterAt_10 : decode cX3_letterAt 10 = .ok (.if_icmp .ge 12, 3) := by decide +kernel
theorem dX3_letterAt_13 : decode cX3_letterAt 13 = .ok (.aload_n 0, 1) := by decide +kernel
theorem dX3_letterAt_14 : decode cX3_letterAt 14 = .ok (.getfield 9, 3) := by decide +kernel
theorem dX3_letterAt_17 : decode cX3_letterAt 17 = .ok (.iload_n 1, 1) := by decide +kernel
theorem dX3_letterAt_18 : decode cX3_letterAt 18 = .ok (.iaload, 1) := by decide +kernel
theorem dX3_letterAt_19 : decode cX3_letterAt 19 = .ok (.goto 4, 3) := by decide +kernel
theorem dX3_letterAt_22 : decode cX3_letterAt 22 = .ok (.iconst 0, 1) := by decide +kernel
theorem dX3_letterAt_23 : decode cX3_letterAt 23 = .ok (.ireturn, 1) := by decide +kernel
theorem dX3_write_0 : decode cX3_write 0 = .ok (.aload_n 0, 1) := by decide +kernel
theorem dX3_write_1 : decode cX3_write 1 = .ok (.getfield 18, 3) := by decide +kernel
theorem dX3_write_4 : decode cX3_write 4 = .ok (.ifCond .lt 15, 3) := by decide +kernel
theorem dX3_write_7 : decode cX3_write 7 = .ok (.aload_n 0, 1) := by decide +kernel
theorem dX3_write_8 : decode cX3_write 8 = .ok (.getfield 18, 3) := by decide +kernel
theorem dX3_write_11 : decode cX3_write 11 = .ok (.aload_n 0, 1) := by decide +kernel
theorem dX3_write_12 : decode cX3_write 12 = .ok (.getfield 9, 3) := by decide +kernel
theorem dX3_write_15 : decode cX3_write 15 = .ok (.arraylength, 1) := by decide +kernel
theorem dX3_write_16 : decode cX3_write 16 = .ok (.if_icmp .lt 5, 3) := by decide +kernel
theorem dX3_write_19 : decode cX3_write 19 = .ok (.iconst 0, 1) := by decide +kernel
theorem dX3_write_20 : decode cX3_write 20 = .ok (.ireturn, 1) := by decide +kernel
theorem dX3_write_21 : decode cX3_write 21 = .ok (.aload_n 0, 1) := by decide +kernel
theorem dX3_write_22 : decode cX3_write 22 = .ok (.getfield 9, 3) := by decide +kernel
theorem dX3_write_25 : decode cX3_write 25 = .ok (.aload_n 0, 1) := by decide +kernel
theorem dX3_write_26 : decode cX3_write 26 = .ok (.getfield 18, 3) := by decide +kernel
theorem dX3_write_29 : decode cX3_write 29 = .ok (.iload_n 1, 1) := by decide +kernel
theorem dX3_write_30 : decode cX3_write 30 = .ok (.iastore, 1) := by decide +kernel
theorem dX3_write_31 : decode cX3_write 31 = .ok (.aload_n 0, 1) := by decide +kernel
theorem dX3_write_32 : decode cX3_write 32 = .ok (.dup, 1) := by decide +kernel
theorem dX3_write_33 : decode cX3_write 33 = .ok (.getfield 18, 3) := by decide +kernel
theorem dX3_write_36 : decode cX3_write 36 = .ok (.iconst 1, 1) := by decide +kernel
theorem dX3_write_37 : decode cX3_write 37 = .ok (.iadd, 1) := by decide +kernel
theorem dX3_write_38 : decode cX3_write 38 = .ok (.putfield 18, 3) := by decide +kernel
theorem dX3_write_41 : decode cX3_write 41 = .ok (.iconst 1, 1) := by decide +kernel
theorem dX3_write_42 : decode cX3_write 42 = .ok (.ireturn, 1) := by decide +kernel
theorem dX3_clear_0 : decode cX3_clear 0 = .ok (.aload_n 0, 1) := by decide +kernel
theorem dX3_clear_1 : decode cX3_clear 1 = .ok (.getfield 18, 3) := by decide +kernel
theorem dX3_clear_4 : decode cX3_clear 4 = .ok (.istore_n 1, 1) := by decide +kernel
theorem dX3_clear_5 : decode cX3_clear 5 = .ok (.aload_n 0, 1) := by decide +kernel
theorem dX3_clear_6 : decode cX3_clear 6 = .ok (.iconst 0, 1) := by decide +kernel
theorem dX3_clear_7 : decode cX3_clear 7 = .ok (.putfield 18, 3) := by decide +kernel
theorem dX3_clear_10 : decode cX3_clear 10 = .ok (.iload_n 1, 1) := by decide +kernel
theorem dX3_clear_11 : decode cX3_clear 11 = .ok (.ireturn, 1) := by decide +kernel
theorem dX3_deeds_0 : decode cX3_deeds 0 = .ok (.aload_n 0, 1) := by decide +kernel
theorem dX3_deeds_1 : decode cX3_deeds 1 = .ok (.getfield 22, 3) := by decide +kernel
theorem dX3_deeds_4 : decode cX3_deeds 4 = .ok (.ireturn, 1) := by decide +kernel
theorem dX3_deedAt_0 : decode cX3_deedAt 0 = .ok (.iload_n 1, 1) := by decide +kernel
theorem dX3_deedAt_1 : decode cX3_deedAt 1 = .ok (.ifCond .lt 21, 3) := by decide +kernel
theorem dX3_deedAt_4 : decode cX3_deedAt 4 = .ok (.iload_n 1, 1) := by decide +kernel
theorem dX3_deedAt_5 : decode cX3_deedAt 5 = .ok (.aload_n 0, 1) := by decide +kernel
theorem dX3_deedAt_6 : decode cX3_deedAt 6 = .ok (.getfield 15, 3) := by decide +kernel
theorem dX3_deedAt_9 : decode cX3_deedAt 9 = .ok (.arraylength, 1) := by decide +kernel
theorem dX3_deedAt_10 : decode cX3_deedAt 10 = .ok (.if_icmp .ge 12, 3) := by decide +kernel
theorem dX3_deedAt_13 : decode cX3_deedAt 13 = .ok (.aload_n 0, 1) := by decide +kernel
theorem dX3_deedAt_14 : decode cX3_deedAt 14 = .ok (.getfield 15, 3) := by decide +kernel
theorem dX3_deedAt_17 : decode cX3_deedAt 17 = .ok (.iload_n 1, 1) := by decide +kernel
theorem dX3_deedAt_18 : decode cX3_deedAt 18 = .ok (.iaload, 1) := by decide +kernel
theorem dX3_deedAt_19 : decode cX3_deedAt 19 = .ok (.goto 4, 3) := by decide +kernel
theorem dX3_deedAt_22 : decode cX3_deedAt 22 = .ok (.iconst (-1), 1) := by decide +kernel
theorem dX3_deedAt_23 : decode cX3_deedAt 23 = .ok (.ireturn, 1) := by decide +kernel
theorem dX3_isWhole_0 : decode cX3_isWhole 0 = .ok (.aload_n 0, 1) := by decide +kernel
theorem dX3_isWhole_1 : decode cX3_isWhole 1 = .ok (.getfield 25, 3) := by decide +kernel
theorem dX3_isWhole_4 : decode cX3_isWhole 4 = .ok (.ireturn, 1) := by decide +kernel
set_option maxRecDepth 20000 in
theorem ggX3_read_X3_take : GoodIn wsX3_read wsX3_take := goodIn_r _ [10, 2, 3, 1, 11, 12, 13, 9, 14, 15, 16, 17, 18, 19, 20, 21, 22, 23, 24, 25, 26, 27] (by decide +kernel) (by decide +kernel)
set_option maxRecDepth 20000 in
theorem gX3_read_X3_take : GoodIn wsX3_read (wsV RX3 32 RX3 yX3_take wsX3_take) := goodIn_app (goodIn_of _ (by decide +kernel)) ggX3_read_X3_take
theorem dX3_read_0 : decode cX3_read 0 = .ok (.aload_n 0, 1) := by decide +kernel
theorem dX3_read_1 : decode cX3_read 1 = .ok (.iconst 0, 1) := by decide +kernel
theorem dX3_read_2 : decode cX3_read 2 = .ok (.putfield 22, 3) := by decide +kernel
theorem dX3_read_5 : decode cX3_read 5 = .ok (.aload_n 0, 1) := by decide +kernel
theorem dX3_read_6 : decode cX3_read 6 = .ok (.iconst 0, 1) := by decide +kernel
theorem dX3_read_7 : decode cX3_read 7 = .ok (.putfield 29, 3) := by decide +kernel
theorem dX3_read_10 : decode cX3_read 10 = .ok (.aload_n 0, 1) := by decide +kernel
theorem dX3_read_11 : decode cX3_read 11 = .ok (.iconst 0, 1) := by decide +kernel
theorem dX3_read_12 : decode cX3_read 12 = .ok (.putfield 25, 3) := by decide +kernel
theorem dX3_read_15 : decode cX3_read 15 = .ok (.iconst 0, 1) := by decide +kernel
theorem dX3_read_16 : decode cX3_read 16 = .ok (.istore_n 1, 1) := by decide +kernel
theorem dX3_read_17 : decode cX3_read 17 = .ok (.iload_n 1, 1) := by decide +kernel
theorem dX3_read_18 : decode cX3_read 18 = .ok (.aload_n 0, 1) := by decide +kernel
theorem dX3_read_19 : decode cX3_read 19 = .ok (.getfield 18, 3) := by decide +kernel
theorem dX3_read_22 : decode cX3_read 22 = .ok (.if_icmp .ge 33, 3) := by decide +kernel
theorem dX3_read_25 : decode cX3_read 25 = .ok (.iload_n 1, 1) := by decide +kernel
theorem dX3_read_26 : decode cX3_read 26 = .ok (.aload_n 0, 1) := by decide +kernel
theorem dX3_read_27 : decode cX3_read 27 = .ok (.getfield 9, 3) := by decide +kernel
theorem dX3_read_30 : decode cX3_read 30 = .ok (.arraylength, 1) := by decide +kernel
theorem dX3_read_31 : decode cX3_read 31 = .ok (.if_icmp .ge 24, 3) := by decide +kernel
theorem dX3_read_34 : decode cX3_read 34 = .ok (.aload_n 0, 1) := by decide +kernel
theorem dX3_read_35 : decode cX3_read 35 = .ok (.aload_n 0, 1) := by decide +kernel
theorem dX3_read_36 : decode cX3_read 36 = .ok (.getfield 9, 3) := by decide +kernel
theorem dX3_read_39 : decode cX3_read 39 = .ok (.iload_n 1, 1) := by decide +kernel
theorem dX3_read_40 : decode cX3_read 40 = .ok (.iaload, 1) := by decide +kernel
theorem dX3_read_41 : decode cX3_read 41 = .ok (.invokevirtual 32, 3) := by decide +kernel
theorem dX3_read_44 : decode cX3_read 44 = .ok (.ifCond .ne 5, 3) := by decide +kernel
theorem dX3_read_47 : decode cX3_read 47 = .ok (.iload_n 1, 1) := by decide +kernel
theorem dX3_read_48 : decode cX3_read 48 = .ok (.ireturn, 1) := by decide +kernel
theorem dX3_read_49 : decode cX3_read 49 = .ok (.iinc 1 1, 3) := by decide +kernel
theorem dX3_read_52 : decode cX3_read 52 = .ok (.goto (-35), 3) := by decide +kernel
theorem dX3_read_55 : decode cX3_read 55 = .ok (.aload_n 0, 1) := by decide +kernel
theorem dX3_read_56 : decode cX3_read 56 = .ok (.getfield 18, 3) := by decide +kernel
theorem dX3_read_59 : decode cX3_read 59 = .ok (.ireturn, 1) := by decide +kernel
set_option maxRecDepth 20000 in
theorem ggX3_take_X3_takeFigure : GoodIn wsX3_take wsX3_takeFigure := goodIn_r _ [8, 9, 1, 3, 10, 2, 15, 16, 17, 18, 19, 20, 21] (by decide +kernel) (by decide +kernel)
set_option maxRecDepth 20000 in
theorem gX3_take_X3_takeFigure : GoodIn wsX3_take (wsV RX3 36 RX3 yX3_takeFigure wsX3_takeFigure) := goodIn_app (goodIn_of _ (by decide +kernel)) ggX3_take_X3_takeFigure
set_option maxRecDepth 20000 in
theorem ggX3_take_X3_takeSign : GoodIn wsX3_take wsX3_takeSign := goodIn_r _ [14, 9, 1, 15, 16, 17, 18, 19, 20, 21] (by decide +kernel) (by decide +kernel)
set_option maxRecDepth 20000 in
theorem gX3_take_X3_takeSign : GoodIn wsX3_take (wsV RX3 39 RX3 yX3_takeSign wsX3_takeSign) := goodIn_app (goodIn_of _ (by decide +kernel)) ggX3_take_X3_takeSign
theorem dX3_take_0 : decode cX3_take 0 = .ok (.aload_n 0, 1) := by decide +kernel
theorem dX3_take_1 : decode cX3_take 1 = .ok (.getfield 29, 3) := by decide +kernel
theorem dX3_take_4 : decode cX3_take 4 = .ok (.ifCond .le 12, 3) := by decide +kernel
theorem dX3_take_7 : decode cX3_take 7 = .ok (.aload_n 0, 1) := by decide +kernel
theorem dX3_take_8 : decode cX3_take 8 = .ok (.iload_n 1, 1) := by decide +kernel
theorem dX3_take_9 : decode cX3_take 9 = .ok (.bipush 48, 2) := by decide +kernel
theorem dX3_take_11 : decode cX3_take 11 = .ok (.isub, 1) := by decide +kernel
theorem dX3_take_12 : decode cX3_take 12 = .ok (.invokevirtual 36, 3) := by decide +kernel
theorem dX3_take_15 : decode cX3_take 15 = .ok (.ireturn, 1) := by decide +kernel
theorem dX3_take_16 : decode cX3_take 16 = .ok (.aload_n 0, 1) := by decide +kernel
theorem dX3_take_17 : decode cX3_take 17 = .ok (.getfield 25, 3) := by decide +kernel
theorem dX3_take_20 : decode cX3_take 20 = .ok (.ifCond .eq 29, 3) := by decide +kernel
theorem dX3_take_23 : decode cX3_take 23 = .ok (.aload_n 0, 1) := by decide +kernel
theorem dX3_take_24 : decode cX3_take 24 = .ok (.iconst 0, 1) := by decide +kernel
theorem dX3_take_25 : decode cX3_take 25 = .ok (.putfield 25, 3) := by decide +kernel
theorem dX3_take_28 : decode cX3_take 28 = .ok (.iload_n 1, 1) := by decide +kernel
theorem dX3_take_29 : decode cX3_take 29 = .ok (.bipush 44, 2) := by decide +kernel
theorem dX3_take_31 : decode cX3_take 31 = .ok (.if_icmp .ne 16, 3) := by decide +kernel
theorem dX3_take_34 : decode cX3_take 34 = .ok (.aload_n 0, 1) := by decide +kernel
theorem dX3_take_35 : decode cX3_take 35 = .ok (.getfield 22, 3) := by decide +kernel
theorem dX3_take_38 : decode cX3_take 38 = .ok (.bipush 10, 2) := by decide +kernel
theorem dX3_take_40 : decode cX3_take 40 = .ok (.if_icmp .ge 7, 3) := by decide +kernel
theorem dX3_take_43 : decode cX3_take 43 = .ok (.iconst 1, 1) := by decide +kernel
theorem dX3_take_44 : decode cX3_take 44 = .ok (.goto 4, 3) := by decide +kernel
theorem dX3_take_47 : decode cX3_take 47 = .ok (.iconst 0, 1) := by decide +kernel
theorem dX3_take_48 : decode cX3_take 48 = .ok (.ireturn, 1) := by decide +kernel
theorem dX3_take_49 : decode cX3_take 49 = .ok (.aload_n 0, 1) := by decide +kernel
theorem dX3_take_50 : decode cX3_take 50 = .ok (.iload_n 1, 1) := by decide +kernel
theorem dX3_take_51 : decode cX3_take 51 = .ok (.invokevirtual 39, 3) := by decide +kernel
theorem dX3_take_54 : decode cX3_take 54 = .ok (.ireturn, 1) := by decide +kernel
theorem dX3_takeSign_0 : decode cX3_takeSign 0 = .ok (.iload_n 1, 1) := by decide +kernel
theorem dX3_takeSign_1 : decode cX3_takeSign 1 = .ok (.lookupswitch 73 #[(99, 47), (115, 35), (121, 60)], 35) := by decide +kernel
theorem dX3_takeSign_36 : decode cX3_takeSign 36 = .ok (.aload_n 0, 1) := by decide +kernel
theorem dX3_takeSign_37 : decode cX3_takeSign 37 = .ok (.iconst 0, 1) := by decide +kernel
theorem dX3_takeSign_38 : decode cX3_takeSign 38 = .ok (.putfield 42, 3) := by decide +kernel
theorem dX3_takeSign_41 : decode cX3_takeSign 41 = .ok (.aload_n 0, 1) := by decide +kernel
theorem dX3_takeSign_42 : decode cX3_takeSign 42 = .ok (.iconst 2, 1) := by decide +kernel
theorem dX3_takeSign_43 : decode cX3_takeSign 43 = .ok (.putfield 29, 3) := by decide +kernel
theorem dX3_takeSign_46 : decode cX3_takeSign 46 = .ok (.iconst 1, 1) := by decide +kernel
theorem dX3_takeSign_47 : decode cX3_takeSign 47 = .ok (.ireturn, 1) := by decide +kernel
theorem dX3_takeSign_48 : decode cX3_takeSign 48 = .ok (.aload_n 0, 1) := by decide +kernel
theorem dX3_takeSign_49 : decode cX3_takeSign 49 = .ok (.bipush 6, 2) := by decide +kernel
theorem dX3_takeSign_51 : decode cX3_takeSign 51 = .ok (.putfield 42, 3) := by decide +kernel
theorem dX3_takeSign_54 : decode cX3_takeSign 54 = .ok (.aload_n 0, 1) := by decide +kernel
theorem dX3_takeSign_55 : decode cX3_takeSign 55 = .ok (.iconst 1, 1) := by decide +kernel
theorem dX3_takeSign_56 : decode cX3_takeSign 56 = .ok (.putfield 29, 3) := by decide +kernel
theorem dX3_takeSign_59 : decode cX3_takeSign 59 = .ok (.iconst 1, 1) := by decide +kernel
theorem dX3_takeSign_60 : decode cX3_takeSign 60 = .ok (.ireturn, 1) := by decide +kernel
theorem dX3_takeSign_61 : decode cX3_takeSign 61 = .ok (.aload_n 0, 1) := by decide +kernel
theorem dX3_takeSign_62 : decode cX3_takeSign 62 = .ok (.bipush 8, 2) := by decide +kernel
theorem dX3_takeSign_64 : decode cX3_takeSign 64 = .ok (.putfield 42, 3) := by decide +kernel
theorem dX3_takeSign_67 : decode cX3_takeSign 67 = .ok (.aload_n 0, 1) := by decide +kernel
theorem dX3_takeSign_68 : decode cX3_takeSign 68 = .ok (.iconst 1, 1) := by decide +kernel
theorem dX3_takeSign_69 : decode cX3_takeSign 69 = .ok (.putfield 29, 3) := by decide +kernel
theorem dX3_takeSign_72 : decode cX3_takeSign 72 = .ok (.iconst 1, 1) := by decide +kernel
theorem dX3_takeSign_73 : decode cX3_takeSign 73 = .ok (.ireturn, 1) := by decide +kernel
theorem dX3_takeSign_74 : decode cX3_takeSign 74 = .ok (.iconst 0, 1) := by decide +kernel
theorem dX3_takeSign_75 : decode cX3_takeSign 75 = .ok (.ireturn, 1) := by decide +kernel
theorem dX3_takeFigure_0 : decode cX3_takeFigure 0 = .ok (.iload_n 1, 1) := by decide +kernel
theorem dX3_takeFigure_1 : decode cX3_takeFigure 1 = .ok (.ifCond .lt 8, 3) := by decide +kernel
theorem dX3_takeFigure_4 : decode cX3_takeFigure 4 = .ok (.iload_n 1, 1) := by decide +kernel
theorem dX3_takeFigure_5 : decode cX3_takeFigure 5 = .ok (.iconst 5, 1) := by decide +kernel
theorem dX3_takeFigure_6 : decode cX3_takeFigure 6 = .ok (.if_icmp .lt 5, 3) := by decide +kernel
theorem dX3_takeFigure_9 : decode cX3_takeFigure 9 = .ok (.iconst 0, 1) := by decide +kernel
theorem dX3_takeFigure_10 : decode cX3_takeFigure 10 = .ok (.ireturn, 1) := by decide +kernel
theorem dX3_takeFigure_11 : decode cX3_takeFigure 11 = .ok (.aload_n 0, 1) := by decide +kernel
theorem dX3_takeFigure_12 : decode cX3_takeFigure 12 = .ok (.aload_n 0, 1) := by decide +kernel
theorem dX3_takeFigure_13 : decode cX3_takeFigure 13 = .ok (.getfield 42, 3) := by decide +kernel
theorem dX3_takeFigure_16 : decode cX3_takeFigure 16 = .ok (.iconst 5, 1) := by decide +kernel
theorem dX3_takeFigure_17 : decode cX3_takeFigure 17 = .ok (.imul, 1) := by decide +kernel
theorem dX3_takeFigure_18 : decode cX3_takeFigure 18 = .ok (.iload_n 1, 1) := by decide +kernel
theorem dX3_takeFigure_19 : decode cX3_takeFigure 19 = .ok (.iadd, 1) := by decide +kernel
theorem dX3_takeFigure_20 : decode cX3_takeFigure 20 = .ok (.putfield 42, 3) := by decide +kernel
theorem dX3_takeFigure_23 : decode cX3_takeFigure 23 = .ok (.aload_n 0, 1) := by decide +kernel
theorem dX3_takeFigure_24 : decode cX3_takeFigure 24 = .ok (.dup, 1) := by decide +kernel
theorem dX3_takeFigure_25 : decode cX3_takeFigure 25 = .ok (.getfield 29, 3) := by decide +kernel
theorem dX3_takeFigure_28 : decode cX3_takeFigure 28 = .ok (.iconst 1, 1) := by decide +kernel
theorem dX3_takeFigure_29 : decode cX3_takeFigure 29 = .ok (.isub, 1) := by decide +kernel
theorem dX3_takeFigure_30 : decode cX3_takeFigure 30 = .ok (.putfield 29, 3) := by decide +kernel
theorem dX3_takeFigure_33 : decode cX3_takeFigure 33 = .ok (.aload_n 0, 1) := by decide +kernel
theorem dX3_takeFigure_34 : decode cX3_takeFigure 34 = .ok (.getfield 29, 3) := by decide +kernel
theorem dX3_takeFigure_37 : decode cX3_takeFigure 37 = .ok (.ifCond .ne 50, 3) := by decide +kernel
theorem dX3_takeFigure_40 : decode cX3_takeFigure 40 = .ok (.aload_n 0, 1) := by decide +kernel
theorem dX3_takeFigure_41 : decode cX3_takeFigure 41 = .ok (.getfield 22, 3) := by decide +kernel
theorem dX3_takeFigure_44 : decode cX3_takeFigure 44 = .ok (.ifCond .lt 43, 3) := by decide +kernel
theorem dX3_takeFigure_47 : decode cX3_takeFigure 47 = .ok (.aload_n 0, 1) := by decide +kernel
theorem dX3_takeFigure_48 : decode cX3_takeFigure 48 = .ok (.getfield 22, 3) := by decide +kernel
theorem dX3_takeFigure_51 : decode cX3_takeFigure 51 = .ok (.aload_n 0, 1) := by decide +kernel
theorem dX3_takeFigure_52 : decode cX3_takeFigure 52 = .ok (.getfield 15, 3) := by decide +kernel
theorem dX3_takeFigure_55 : decode cX3_takeFigure 55 = .ok (.arraylength, 1) := by decide +kernel
theorem dX3_takeFigure_56 : decode cX3_takeFigure 56 = .ok (.if_icmp .ge 31, 3) := by decide +kernel
theorem dX3_takeFigure_59 : decode cX3_takeFigure 59 = .ok (.aload_n 0, 1) := by decide +kernel
theorem dX3_takeFigure_60 : decode cX3_takeFigure 60 = .ok (.getfield 15, 3) := by decide +kernel
theorem dX3_takeFigure_63 : decode cX3_takeFigure 63 = .ok (.aload_n 0, 1) := by decide +kernel
theorem dX3_takeFigure_64 : decode cX3_takeFigure 64 = .ok (.getfield 22, 3) := by decide +kernel
theorem dX3_takeFigure_67 : decode cX3_takeFigure 67 = .ok (.aload_n 0, 1) := by decide +kernel
theorem dX3_takeFigure_68 : decode cX3_takeFigure 68 = .ok (.getfield 42, 3) := by decide +kernel
theorem dX3_takeFigure_71 : decode cX3_takeFigure 71 = .ok (.iastore, 1) := by decide +kernel
theorem dX3_takeFigure_72 : decode cX3_takeFigure 72 = .ok (.aload_n 0, 1) := by decide +kernel
theorem dX3_takeFigure_73 : decode cX3_takeFigure 73 = .ok (.dup, 1) := by decide +kernel
theorem dX3_takeFigure_74 : decode cX3_takeFigure 74 = .ok (.getfield 22, 3) := by decide +kernel
theorem dX3_takeFigure_77 : decode cX3_takeFigure 77 = .ok (.iconst 1, 1) := by decide +kernel
theorem dX3_takeFigure_78 : decode cX3_takeFigure 78 = .ok (.iadd, 1) := by decide +kernel
theorem dX3_takeFigure_79 : decode cX3_takeFigure 79 = .ok (.putfield 22, 3) := by decide +kernel
theorem dX3_takeFigure_82 : decode cX3_takeFigure 82 = .ok (.aload_n 0, 1) := by decide +kernel
theorem dX3_takeFigure_83 : decode cX3_takeFigure 83 = .ok (.iconst 1, 1) := by decide +kernel
theorem dX3_takeFigure_84 : decode cX3_takeFigure 84 = .ok (.putfield 25, 3) := by decide +kernel
theorem dX3_takeFigure_87 : decode cX3_takeFigure 87 = .ok (.iconst 1, 1) := by decide +kernel
theorem dX3_takeFigure_88 : decode cX3_takeFigure 88 = .ok (.ireturn, 1) := by decide +kernel
